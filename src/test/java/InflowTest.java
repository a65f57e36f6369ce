/** Promises 9 and 10: turnAt and the inflow expression. */
public final class InflowTest {
    private InflowTest() {
    }

    public static void main(String[] args) {
        turns();
        values();
        limits();
        variables();
        longExpressions();
        wrongHours();
        Check.finish();
    }

    private static void value(String expression, int hour, int want) {
        IrrigationTurns x = Check.loaded("inflow " + expression + ";turn 3 2;turn 5 1;");
        Check.due("inflow(" + hour + ") of " + expression, x.inflow(hour), want);
    }

    private static void turns() {
        IrrigationTurns x = Check.loaded("turn 3 2;turn 5 1;turn 3 99;turn 0 1;");
        int[] villages = {3, 3, 5, 3, 3};
        for (int hour = 0; hour < villages.length; hour++) {
            Check.due("turnAt(" + hour + ")", x.turnAt(hour), villages[hour]);
        }
        Check.due("turnAt(101)", x.turnAt(101), 3);
        Check.due("turnAt(102)", x.turnAt(102), 0);
        Check.due("turnAt(103)", x.turnAt(103), 3);
        Check.due("turnAt(105)", x.turnAt(105), 5);
        Check.due("turnAt(99909), the end of the 970th cycle", x.turnAt(99909), 0);
        Check.due("turnAt(99912)", x.turnAt(99912), 5);
        Check.due("cycleLength()", x.cycleLength(), 103);
        Check.due("cycleLength() of the longest", Check.loaded("turn 1 99;".repeat(12)).cycleLength(), 1188);
    }

    private static void values() {
        value("7", 0, 7);
        value("0", 0, 0);
        value("1+2*3", 0, 7);
        value("(1+2)*3", 0, 9);
        value("20-5-4", 0, 11);
        value("20-(5-4)", 0, 19);
        value("100/7/2", 0, 7);
        value("100/(7/2)", 0, 33);
        value("2*7/4*3", 0, 9);
        value("7-9", 0, 0);
        value("9/0", 0, 0);
        value("5+9/(3-3)", 0, 5);
        value("10-(3-10)/2", 0, 13);
        value("10-(0-7)/2", 0, 13);
        value("10+(0-7)/(0-2)", 0, 13);
        value("10+7/(0-2)", 0, 7);
        value("0-5+9", 0, 4);
        value("  (  1  +  2  )  ", 0, 3);
    }

    private static void limits() {
        value("9999", 0, 9999);
        value("9999+1", 0, 9999);
        value("9999*9999/9999", 0, 9999);
        value("9999*9999*11/9999/100", 0, 1000);
        value("9999*9999*9999/9999/9999", 0, 10);
        value("9999*9999*9999-9999*9999*9999+8", 0, 8);
        value("9999*9999*9999+9999-9999*9999*9999", 0, 0);
        value("(0-9999*9999*9999-9999)/9999/9999+50", 0, 40);
        value("(0-9999*9999*9999)*(9999*9999*9999)/9999/9999+50", 0, 40);
        value("(9999*9999*9999)*(9999*9999*9999)/9999/9999", 0, 10);
        value("9999*9999*9999-9999*9998*9999-1", 0, 0);
        value("9999*9999*9999-1000*1000*1000+5", 0, 5);
        value("9999*9999*9999-(1000*1000*999+999*1000+999)+5", 0, 6);
        value("0-9999*9999*9999-9999+1000*1000*1000+5", 0, 5);
        value("0-9999*9999*9999+(1000*1000*999+999*1000+999)+5", 0, 4);
    }

    private static void variables() {
        value("hour", 0, 0);
        value("hour", 9999, 9999);
        value("hour", 100000, 9999);
        value("hour/10", 100000, 9999);
        value("hour/11", 100000, 9090);
        value("day", 23, 0);
        value("day", 24, 1);
        value("day", 100000, 4166);
        value("turn", 1, 3);
        value("turn", 2, 5);
        value("turn", 3, 3);
        value("hour*10+day*7", 50, 514);
        IrrigationTurns x = Check.loaded("inflow 10+turn*3;");
        Check.due("inflow(4) without a rotation: turn is -1", x.inflow(4), 7);
        IrrigationTurns y = Check.loaded("canal 1 0 9999;inflow hour*hour+turn;turn 2 3;turn 4 1;");
        y.run(5);
        Check.due("total(0) after the hours 0 to 4", y.total(0), 2 + 3 + 6 + 13 + 18);
        y.swapTurns(0, 1);
        Check.due("inflow(0) follows the swapped rotation", y.inflow(0), 4);
    }

    /** As long as the buffer allows. */
    private static void longExpressions() {
        IrrigationTurns x = Check.loaded("inflow 1" + "+1".repeat(445) + "; ");
        Check.due("inflow(0) of 446 terms", x.inflow(0), 446);
        value("1" + "+1".repeat(431), 0, 432);
        value("1" + "*1".repeat(431), 0, 1);
        value("1+1*(1+1*(1+1*(1+1*(1+1*1))))" + "-1+1".repeat(200), 0, 6);
    }

    private static void wrongHours() {
        IrrigationTurns x = Check.loaded("turn 1 1;");
        Check.due("turnAt(100000)", x.turnAt(100000), 1);
        Check.dueArgument("turnAt(-1)", () -> x.turnAt(-1));
        Check.dueArgument("turnAt(100001)", () -> x.turnAt(100001));
        Check.dueArgument("turnAt(MAX)", () -> x.turnAt(Integer.MAX_VALUE));
        Check.dueArgument("inflow(-1)", () -> x.inflow(-1));
        Check.dueArgument("inflow(100001)", () -> x.inflow(100001));
        Check.dueArgument("inflow(MIN)", () -> x.inflow(Integer.MIN_VALUE));
    }
}

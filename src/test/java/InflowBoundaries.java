/** The boundary cases of the rotation and of the inflow expression (promises 8 to 10). */
final class InflowBoundaries {
    private static final String TOP = "1000*1000*1000";

    private InflowBoundaries() {
    }

    static void test(Sentences due) {
        due.test(9, "The entries follow one another, each for its hours, and start over with the first one after the last one;",
                InflowBoundaries::entriesInTurn);
        due.test(9, "at clock 0 the first entry begins.", InflowBoundaries::firstEntry);
        due.test(9, "In an hour, the village of the entry of this hour has the turn.",
                InflowBoundaries::villageOfTheEntry);
        due.test(9, "Without entries no village has the turn.", InflowBoundaries::noEntries);
        due.test(10, "The inflow of an hour is the value of the inflow expression, limited to the range 0 to 9999.",
                InflowBoundaries::limitedInflow);
        due.test(10, "Returns the inflow of this hour.", InflowBoundaries::inflowOfEachHour);
        due.test(10, "In the expression, hour is the number of the hour,", InflowBoundaries::hours);
        due.test(10, "day is that number divided by 24,", InflowBoundaries::days);
        due.test(10, "and turn is the village that has the turn in this hour (-1 if none has it).", InflowBoundaries::turns);
        due.test(10, "Division truncates toward zero;", InflowBoundaries::division);
        due.test(10, "division by 0 gives 0.", InflowBoundaries::divisionByZero);
        due.test(10, "The result of each operation is limited to the range -1000000000 to 1000000000.",
                InflowBoundaries::limitedResults);
        due.test(10, "Without an inflow statement the inflow is 100.", InflowBoundaries::noStatement);
        due.test(10, "all dividends are 0 or more except in the inflow expression.", () -> {
            value("10+(0-1)/1", 9);
            value("10+(0-0)/1", 10);
        });
    }

    private static void value(String expression, int want) {
        Check.due("inflow(0) of " + expression, Check.loaded("inflow " + expression + ";").inflow(0), want);
    }

    /** Shows a value of either sign, as far as it is less than 5000 away from 0. */
    private static void near(String expression, int want) {
        value(expression + "+5000", want + 5000);
    }

    private static void dueVillages(IrrigationTurns x, int firstHour, int... villages) {
        for (int i = 0; i < villages.length; i++) {
            Check.due("turnAt(" + (firstHour + i) + ")", x.turnAt(firstHour + i), villages[i]);
        }
    }

    private static void entriesInTurn() {
        IrrigationTurns x = Check.loaded("turn 3 1;turn 5 2;turn 0 3;");
        dueVillages(x, 0, 3, 5, 5, 0, 0, 0, 3, 5, 5, 0, 0, 0, 3);
        dueVillages(x, 99996, 3, 5, 5, 0, 0);
        IrrigationTurns y = Check.loaded("turn 3 99;turn 5 1;turn 3 99;turn 1 99;");
        dueVillages(y, 98, 3, 5, 3);
        dueVillages(y, 198, 3, 1);
        dueVillages(y, 297, 1, 3);
        IrrigationTurns full = Check.loaded("turn 1 99;".repeat(11) + "turn 2 99;");
        dueVillages(full, 1088, 1, 2);
        dueVillages(full, 1187, 2, 1);
        dueVillages(full, 2375, 2, 1);
        dueVillages(Check.loaded("turn 4 1;"), 0, 4, 4, 4);
    }

    private static void villageOfTheEntry() {
        for (int village = 0; village < 6; village++) {
            int next = (village + 1) % 6;
            IrrigationTurns x = Check.loaded("turn " + village + " 1;turn " + next + " 99;");
            dueVillages(x, 0, village, next);
            dueVillages(x, 99, next, village, next);
            dueVillages(x, 99999, next, village);
        }
    }

    private static void firstEntry() {
        dueVillages(Check.loaded("turn 4 1;turn 2 1;"), 0, 4, 2);
        IrrigationTurns x = Check.loaded("canal 1 0 9;turn 4 2;turn 2 1;");
        x.run(2);
        dueVillages(x, 0, 4, 4, 2, 4);
        Check.due("the same text at clock 2", Check.load(x, "canal 1 0 9;turn 1 2;turn 3 1;"), 3);
        dueVillages(x, 0, 1, 1, 3, 1);
    }

    private static void noEntries() {
        IrrigationTurns x = Check.loaded("canal 1 0 9;" + "field 0 0 1 0 1 0;field 0 5 1 0 1 0;");
        Check.due("turnAt(0)", x.turnAt(0), -1);
        Check.due("turnAt(100000)", x.turnAt(100000), -1);
        Check.due("isOpen(0)", x.isOpen(0), false);
        Check.due("isOpen(1)", x.isOpen(1), false);
        IrrigationTurns y = Check.loaded("canal 1 0 9;field 0 0 1 0 1 0;turn 0 1;");
        Check.due("turnAt(0) with one entry", y.turnAt(0), 0);
        Check.due("turnAt(100000) with one entry", y.turnAt(100000), 0);
        Check.due("isOpen(0) with one entry", y.isOpen(0), true);
        Check.due("load of an empty text", y.load(0), 0);
        Check.due("turnAt(0) afterwards", y.turnAt(0), -1);
    }

    private static void limitedInflow() {
        value("0", 0);
        value("0-1", 0);
        value("1-1", 0);
        value("2-1", 1);
        value("9999", 9999);
        value("9998+1", 9999);
        value("9999+1", 9999);
        value("9999-1", 9998);
        value(TOP, 9999);
        value("0-" + TOP, 0);
        IrrigationTurns x = Check.loaded("canal 1 0 9999;inflow 9999+hour;");
        x.run(2);
        Check.due("total(0) of two hours", x.total(0), 19998);
        IrrigationTurns y = Check.loaded("canal 1 0 9999;inflow hour-1;");
        y.run(3);
        Check.due("total(0) of -1, 0 and 1", y.total(0), 1);
    }

    /** Not that of the present hour. */
    private static void inflowOfEachHour() {
        IrrigationTurns x = Check.loaded("canal 1 0 9999;inflow hour*10+day*100+turn;turn 1 5;turn 3 1;");
        for (int clock = 0; clock < 3; clock++) {
            dueInflow(x, 0, 1);
            dueInflow(x, 4, 41);
            dueInflow(x, 5, 53);
            dueInflow(x, 23, 233);
            dueInflow(x, 24, 341);
            dueInflow(x, 100000, 9999);
            x.run(1);
        }
        Check.due("total(0) after 3 hours", x.total(0), 1 + 11 + 21);
    }

    private static void dueInflow(IrrigationTurns x, int hour, int want) {
        Check.due("inflow(" + hour + ")", x.inflow(hour), want);
    }

    private static void hours() {
        IrrigationTurns x = Check.loaded("inflow hour;");
        dueInflow(x, 0, 0);
        dueInflow(x, 1, 1);
        dueInflow(x, 9999, 9999);
        dueInflow(Check.loaded("inflow hour-9999*9-10;"), 100000, 9999);
        dueInflow(Check.loaded("inflow hour-9999*10;"), 100000, 10);
    }

    private static void days() {
        IrrigationTurns x = Check.loaded("inflow day;");
        dueInflow(x, 0, 0);
        dueInflow(x, 23, 0);
        dueInflow(x, 24, 1);
        dueInflow(x, 47, 1);
        dueInflow(x, 48, 2);
        dueInflow(x, 99983, 4165);
        dueInflow(x, 99984, 4166);
        dueInflow(x, 100000, 4166);
    }

    private static void turns() {
        IrrigationTurns x = Check.loaded("inflow 10+turn;turn 0 2;turn 5 1;");
        dueInflow(x, 0, 10);
        dueInflow(x, 1, 10);
        dueInflow(x, 2, 15);
        dueInflow(x, 3, 10);
        dueInflow(Check.loaded("inflow 10+turn;"), 0, 9);
        dueInflow(Check.loaded("inflow 10+turn;"), 100000, 9);
        IrrigationTurns run = Check.loaded("canal 1 0 9999;inflow 10+turn;turn 0 2;turn 5 1;");
        run.run(4);
        Check.due("total(0) of 10, 10, 15 and 10", run.total(0), 45);
    }

    private static void division() {
        near("1/2", 0);
        near("2/2", 1);
        near("3/2", 1);
        near("(0-1)/2", 0);
        near("(0-2)/2", -1);
        near("(0-3)/2", -1);
        near("(0-4)/2", -2);
        near("1/(0-2)", 0);
        near("3/(0-2)", -1);
        near("4/(0-2)", -2);
        near("(0-1)/(0-2)", 0);
        near("(0-3)/(0-2)", 1);
        near(TOP + "/(0-" + TOP + ")", -1);
        near("(" + TOP + "-1)/(0-" + TOP + ")", 0);
    }

    private static void divisionByZero() {
        near("7/0", 0);
        near("7/1", 7);
        near("7/(0-1)", -7);
        near("0/0", 0);
        near("(0-7)/0", 0);
        near("7/(1-1)", 0);
        near("3+7/0", 3);
        near("7/0*2+1", 1);
        near(TOP + "/0", 0);
        dueInflow(Check.loaded("inflow 50/hour;"), 0, 0);
        dueInflow(Check.loaded("inflow 50/hour;"), 1, 50);
        dueInflow(Check.loaded("inflow 50/day;"), 23, 0);
        dueInflow(Check.loaded("inflow 50/turn;turn 0 1;turn 5 1;"), 0, 0);
        dueInflow(Check.loaded("inflow 50/turn;turn 0 1;turn 5 1;"), 1, 10);
    }

    /** 1000000001 is 7 * 142857143. */
    private static void limitedResults() {
        String seventh = "((142*1000+857)*1000+143)";
        near(TOP + "-" + TOP, 0);
        near(TOP + "-1-" + TOP, -1);
        near("(" + TOP + "-1)+1-" + TOP, 0);
        near("(" + TOP + "-1)+2-" + TOP, 0);
        near("(" + TOP + "+" + TOP + ")-" + TOP, 0);
        near(TOP + "-(0-0)-" + TOP, 0);
        near("(" + TOP + "-1)-(0-1)-" + TOP, 0);
        near("(" + TOP + "-1)-(0-2)-" + TOP, 0);
        near("(0-" + TOP + ")+" + TOP, 0);
        near("(0-" + TOP + "+1)-1+" + TOP, 0);
        near("(0-" + TOP + "+1)-2+" + TOP, 0);
        near("(0-" + TOP + "+1)+(0-1)+" + TOP, 0);
        near("(0-" + TOP + "+1)+(0-2)+" + TOP, 0);
        near("(0-" + TOP + "-" + TOP + ")+" + TOP, 0);
        near("7*(" + seventh + "-1)-" + TOP, -6);
        near("7*" + seventh + "-" + TOP, 0);
        near("(0-7)*(" + seventh + "-1)+" + TOP, 6);
        near("(0-7)*" + seventh + "+" + TOP, 0);
        near(TOP + "*(" + TOP + ")-" + TOP, 0);
        near(TOP + "*(0-" + TOP + ")+" + TOP, 0);
        near("(0-" + TOP + ")*(0-" + TOP + ")-" + TOP, 0);
        near(TOP + "/1-" + TOP, 0);
        near("(0-" + TOP + ")/(0-1)-" + TOP, 0);
    }

    private static void noStatement() {
        IrrigationTurns x = Check.loaded("canal 1 0 9999;");
        dueInflow(x, 0, 100);
        dueInflow(x, 100000, 100);
        dueInflow(new IrrigationTurns(), 0, 100);
        dueInflow(new IrrigationTurns(), 100000, 100);
        IrrigationTurns y = Check.loaded("canal 1 0 9999;inflow 0;");
        dueInflow(y, 0, 0);
        Check.due("load without inflow", Check.load(y, "canal 1 0 9999;"), 1);
        dueInflow(y, 0, 100);
        y.run(1);
        Check.due("total(0)", y.total(0), 100);
    }
}

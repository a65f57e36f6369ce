/** Promises 7 and 11 to 21: what the steps of an hour leave behind. */
public final class HourTest {
    private HourTest() {
    }

    public static void main(String[] args) {
        lossAndCapacity();
        longestDelay();
        fieldsTake();
        gatesByTurn();
        sharesAndRounding();
        sharesOfNothing();
        openCanalsBelow();
        seepageAndBanks();
        guardWalks();
        stolenWater();
        wrongArguments();
        Check.finish();
    }

    private static void dueRow(String what, int[] got, int... want) {
        for (int i = 0; i < want.length; i++) {
            Check.due(what + " at " + i, got[i], want[i]);
        }
    }

    private static int[] waterAhead(IrrigationTurns x, int canal) {
        int[] row = new int[6];
        for (int hours = 0; hours < 6; hours++) {
            row[hours] = x.waterIn(canal, hours);
        }
        return row;
    }

    private static void dueTotals(String when, IrrigationTurns x, long... want) {
        for (int what = 0; what < want.length; what++) {
            Check.due("total(" + what + ") " + when, x.total(what), want[what]);
        }
        Check.dueBalance(when, x);
    }

    private static void lossAndCapacity() {
        IrrigationTurns x = Check.loaded("canal 2 10 95;");
        x.run(1);
        dueRow("after 1 hour: waterIn", waterAhead(x, 0), 0, 86, 0, 0, 0, 0);
        dueTotals("after 1 hour", x, 100, 86, 0, 5, 9, 0);
        Check.due("arrived(0)", x.arrived(0), 0);
        x.run(1);
        dueRow("after 2 hours: waterIn", waterAhead(x, 0), 86, 86, 0, 0, 0, 0);
        Check.due("clock()", x.clock(), 2);
        x.run(1);
        dueTotals("after 3 hours: what arrives is spilled without fields", x, 300, 172, 0, 15 + 86, 27, 0);
        Check.due("arrived(0)", x.arrived(0), 86);
        IrrigationTurns y = Check.loaded("canal 1 50 9999;inflow 9999;");
        y.run(1);
        dueTotals("with the greatest inflow", y, 9999, 5000, 0, 0, 4999, 0);
        IrrigationTurns z = Check.loaded("canal 1 50 1;inflow hour;");
        z.run(2);
        dueTotals("with the smallest capacity", z, 1, 1, 0, 0, 0, 0);
    }

    private static void longestDelay() {
        IrrigationTurns x = Check.loaded("canal 6 0 9999;inflow hour+1;");
        x.run(6);
        dueRow("after 6 hours: waterIn", waterAhead(x, 0), 1, 2, 3, 4, 5, 6);
        x.run(1);
        Check.due("arrived(0) in hour 6", x.arrived(0), 1);
        dueRow("after 7 hours: waterIn", waterAhead(x, 0), 2, 3, 4, 5, 6, 7);
        x.run(100);
        Check.due("arrived(0) in hour 106", x.arrived(0), 101);
        dueRow("after 107 hours: waterIn", waterAhead(x, 0), 102, 103, 104, 105, 106, 107);
    }

    private static void fieldsTake() {
        IrrigationTurns x = Check.loaded("canal 1 0 9999;field 0 1 30 0 9999 0;field 0 2 7 0 9999 0;"
                + "field 0 1 200 0 9999 0;field 0 1 5 0 9999 0;turn 1 99;");
        Check.due("run(1): nothing has arrived", x.run(1), 0);
        Check.due("run(1)", x.run(1), 100);
        Check.due("taken(0), its intake", x.taken(0), 30);
        Check.due("taken(1), it has no turn", x.taken(1), 0);
        Check.due("taken(2), what is left", x.taken(2), 70);
        Check.due("taken(3), nothing is left", x.taken(3), 0);
        Check.due("run(2)", x.run(2), 200);
        Check.due("taken(0)", x.taken(0), 90);
        Check.due("water(2)", x.water(2), 210);
        dueTotals("after 4 hours", x, 400, 100, 300, 0, 0, 0);
    }

    private static void gatesByTurn() {
        IrrigationTurns x = Check.loaded("canal 1 0 9999;field 0 0 10 0 9999 0;field 0 5 10 0 9999 0;turn 5 1;turn 0 2;");
        boolean[] first = {false, true, true, false, true};
        for (int hour = 0; hour < first.length; hour++) {
            Check.due("isOpen(0) in hour " + hour, x.isOpen(0), first[hour]);
            Check.due("isOpen(1) in hour " + hour, x.isOpen(1), !first[hour]);
            Check.due("isForced(0) in hour " + hour, x.isForced(0), false);
            x.run(1);
        }
        Check.due("taken(0) in the hours 1, 2 and 4", x.taken(0), 30);
        Check.due("taken(1) in hour 3", x.taken(1), 10);
        Check.due("stolen(0)", x.stolen(0), 0);
        IrrigationTurns y = Check.loaded("canal 1 0 9999;field 0 0 10 0 9999 0;");
        Check.due("isOpen(0) without a rotation", y.isOpen(0), false);
        y.force(0);
        Check.due("isOpen(0) when it is forced", y.isOpen(0), true);
        Check.due("isForced(0)", y.isForced(0), true);
    }

    private static void sharesAndRounding() {
        IrrigationTurns x = Check.loaded("canal 1 0 9999;canal from 0 1 0 9999 share 0;canal from 0 2 0 9999 share 3;"
                + "canal from 0 2 0 9999;canal from 0 2 0 40 share 3;field 1 0 1 0 9 0;field 2 0 1 0 9 0;"
                + "field 3 1 1 0 9 0;field 4 0 1 0 9 0;turn 0 3;turn 1 3;");
        x.run(2);
        Check.due("waterIn(1, 0): open, but its share is 0", x.waterIn(1, 0), 0);
        Check.due("waterIn(2, 1): 50 of 100", x.waterIn(2, 1), 50);
        Check.due("waterIn(3, 1): closed", x.waterIn(3, 1), 0);
        Check.due("waterIn(4, 1): 50, 10 above its capacity", x.waterIn(4, 1), 40);
        Check.due("total(3)", x.total(3), 10);
        x.force(0);
        x.force(2);
        x.run(1);
        Check.due("waterIn(2, 1): 42 and the 2 that remain", x.waterIn(2, 1), 44);
        Check.due("waterIn(3, 1): 14", x.waterIn(3, 1), 14);
        Check.due("waterIn(4, 1): 42, 2 above its capacity", x.waterIn(4, 1), 40);
        Check.due("waterIn(1, 0)", x.waterIn(1, 0), 0);
        Check.dueBalance("after shares", x);
    }

    private static void sharesOfNothing() {
        IrrigationTurns x = Check.loaded("canal 1 0 9999;canal from 0 1 0 9999 share 0;canal from 0 1 0 9999 share 0;"
                + "canal from 0 1 0 9999 share 9;field 1 0 1 0 9 0;field 2 0 1 0 9 0;field 3 1 1 0 9 0;turn 0 9;");
        x.run(2);
        Check.due("total(3): the sum of the open shares is 0", x.total(3), 100);
        x.force(2);
        x.run(1);
        Check.due("waterIn(3, 0): the only open share", x.waterIn(3, 0), 100);
        Check.due("total(3)", x.total(3), 100);
        IrrigationTurns y = Check.loaded("canal 1 0 9999;canal from 0 1 0 9999;field 1 0 1 0 9 0;");
        y.run(5);
        Check.due("total(3): no open child", y.total(3), 400);
        Check.due("total(1)", y.total(1), 100);
    }

    private static void openCanalsBelow() {
        String tree = "canal 1 0 9999;canal from 0 1 0 9999;canal from 0 1 0 9999;canal from 1 1 0 9999;"
                + "canal from 3 1 0 9999;field 4 0 60 0 9999 0;field 1 1 5 0 9999 0;turn 0 99;";
        IrrigationTurns x = Check.loaded(tree);
        x.run(5);
        Check.due("arrived(2), nothing is open there", x.arrived(2), 0);
        Check.due("arrived(1)", x.arrived(1), 100);
        Check.due("arrived(3)", x.arrived(3), 100);
        Check.due("arrived(4)", x.arrived(4), 100);
        Check.due("taken(0), three canals down", x.taken(0), 60);
        Check.due("total(3)", x.total(3), 40);
        x.force(1);
        x.run(3);
        Check.due("arrived(3) behind a forced gate", x.arrived(3), 95);
        Check.due("stolen(1)", x.stolen(1), 15);
        Check.dueBalance("after a tree", x);
    }

    private static void seepageAndBanks() {
        IrrigationTurns x = Check.loaded("canal 1 0 9999;field 0 0 10 0 12 1;field 0 1 5 0 3 2 over 0;"
                + "field 0 0 50 0 20 99 over 1;field 0 0 999 0 4 0 over 1;turn 0 99;");
        x.run(2);
        Check.due("water(3) is at its bank", x.water(3), 4);
        Check.due("water(2): all 50 seep away, and no more", x.water(2), 0);
        Check.due("water(1): 36 run in, 2 seep, 31 run over", x.water(1), 3);
        Check.due("water(0): 10 and 31 run in, 1 seeps, 28 are spilled", x.water(0), 12);
        dueTotals("after 2 hours", x, 200, 100, 19, 28, 0, 53);
        IrrigationTurns y = Check.loaded("canal 1 0 9999;field 0 0 10 0 9 1;turn 0 99;");
        y.run(2);
        Check.due("water(0): 10 less 1 is its bank", y.water(0), 9);
        Check.due("total(3)", y.total(3), 90);
        y.run(1);
        Check.due("water(0)", y.water(0), 9);
        Check.due("total(3), the excess of 9 too", y.total(3), 189);
        Check.due("total(5)", y.total(5), 2);
        Check.due("taken(0)", y.taken(0), 20);
    }

    private static void guardWalks() {
        IrrigationTurns x = Check.loaded("canal 1 0 9999;canal from 0 1 0 9999;canal from 0 1 0 9999;"
                + "field 1 4 1 0 9 0;field 2 5 1 0 9 0;field 1 4 1 0 9 0;field 1 3 1 0 9 0;field 0 3 1 0 9 0;guard 0 1 1 2;");
        for (int field = 0; field < 5; field++) {
            Check.due("force(" + field + ")", x.force(field), field + 1);
        }
        Check.due("guardAt()", x.guardAt(), 0);
        x.run(1);
        Check.due("guardAt()", x.guardAt(), 1);
        Check.due("fines(4), two gates at once", x.fines(4), 2);
        Check.due("fines(3)", x.fines(3), 1);
        Check.due("fines(5)", x.fines(5), 0);
        Check.due("isForced(0)", x.isForced(0), false);
        Check.due("isForced(1)", x.isForced(1), true);
        Check.due("isForced(4): the guard started here but closed nothing", x.isForced(4), true);
        Check.due("force(0) again", x.force(0), 3);
        x.run(1);
        Check.due("guardAt(), the same canal twice", x.guardAt(), 1);
        Check.due("fines(4)", x.fines(4), 3);
        x.run(1);
        Check.due("guardAt()", x.guardAt(), 2);
        Check.due("fines(5)", x.fines(5), 1);
        x.run(1);
        Check.due("guardAt(), the first of the route", x.guardAt(), 0);
        Check.due("fines(3)", x.fines(3), 2);
        IrrigationTurns y = Check.loaded("canal 1 0 9;field 0 2 1 0 9 0;guard 0;");
        y.force(0);
        Check.due("run(2) with a route of one canal", y.run(2), 0);
        Check.due("guardAt()", y.guardAt(), 0);
        Check.due("fines(2)", y.fines(2), 1);
        IrrigationTurns z = Check.loaded("canal 1 0 9;field 0 2 1 0 9 0;");
        z.force(0);
        z.run(9);
        Check.due("isForced(0) without a guard", z.isForced(0), true);
        Check.due("guardAt()", z.guardAt(), -1);
    }

    private static void stolenWater() {
        IrrigationTurns x = Check.loaded("canal 1 0 9999;field 0 0 10 0 9999 0;turn 0 2;turn 1 2;");
        x.force(0);
        Check.due("run(6)", x.run(6), 50);
        Check.due("taken(0)", x.taken(0), 50);
        Check.due("stolen(0): the hours 2 and 3 only", x.stolen(0), 20);
        Check.due("fines(0) without a guard", x.fines(0), 0);
        IrrigationTurns y = Check.loaded("canal 1 0 9999;canal from 0 1 0 9999;field 0 0 10 0 9999 0;guard 1 0;");
        y.run(1);
        y.force(0);
        Check.due("run(1): the guard comes after the taking", y.run(1), 10);
        Check.due("isForced(0): the guard is back at canal 1", y.isForced(0), true);
        Check.due("run(1)", y.run(1), 10);
        Check.due("isForced(0)", y.isForced(0), false);
        Check.due("run(1)", y.run(1), 0);
        Check.due("stolen(0)", y.stolen(0), 20);
    }

    private static void wrongArguments() {
        IrrigationTurns x = Check.loaded("canal 1 0 9999;canal from 0 2 0 9;field 0 0 10 0 9999 0;");
        for (int index : new int[] {-1, 2, Integer.MAX_VALUE, Integer.MIN_VALUE}) {
            Check.dueIndex("parent(" + index + ")", () -> x.parent(index));
            Check.dueIndex("arrived(" + index + ")", () -> x.arrived(index));
            Check.dueIndex("waterIn(" + index + ", 0)", () -> x.waterIn(index, 0));
            Check.dueIndex("waterIn(" + index + ", 6), the canal first", () -> x.waterIn(index, 6));
        }
        for (int index : new int[] {-1, 1, 12, Integer.MAX_VALUE, Integer.MIN_VALUE}) {
            Check.dueIndex("isOpen(" + index + ")", () -> x.isOpen(index));
            Check.dueIndex("isForced(" + index + ")", () -> x.isForced(index));
            Check.dueIndex("water(" + index + ")", () -> x.water(index));
            Check.dueIndex("taken(" + index + ")", () -> x.taken(index));
            Check.dueIndex("stolen(" + index + ")", () -> x.stolen(index));
        }
        for (int value : new int[] {-1, 6, Integer.MAX_VALUE, Integer.MIN_VALUE}) {
            Check.dueIndex("fines(" + value + ")", () -> x.fines(value));
            Check.dueArgument("total(" + value + ")", () -> x.total(value));
            Check.dueArgument("waterIn(1, " + value + ")", () -> x.waterIn(1, value));
        }
        Check.due("waterIn(0, 5) beyond the delay", x.waterIn(0, 5), 0);
    }
}

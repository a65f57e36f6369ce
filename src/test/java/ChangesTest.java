/** Promises 26 to 30: run, force, swapTurns, undo and checksum. */
public final class ChangesTest {
    private static final String PLAIN = "canal 1 0 9999;field 0 0 10 0 9999 0;field 0 1 20 0 9999 0;turn 0 2;turn 1 3;";

    private ChangesTest() {
    }

    public static void main(String[] args) {
        runs();
        lastHour();
        forces();
        swaps();
        undoOfEach();
        eightChanges();
        undoOfLoad();
        throwsAreNoChanges();
        checksums();
        Check.finish();
    }

    private static void runs() {
        IrrigationTurns x = Check.loaded(PLAIN);
        Check.due("run(1)", x.run(1), 0);
        Check.due("run(100): 40 hours of 10, 60 of 20, less the turn in hour 0", x.run(100), 40 * 10 + 60 * 20);
        Check.due("clock()", x.clock(), 101);
        for (int hours : new int[] {-1, 0, 101, Integer.MIN_VALUE, Integer.MAX_VALUE}) {
            Check.dueArgument("run(" + hours + ")", () -> x.run(hours));
        }
        Check.due("clock() after runs that throw", x.clock(), 101);
        IrrigationTurns y = Check.loaded("turn 0 1;");
        Check.dueState("run(1) without canals", () -> y.run(1));
        Check.dueArgument("run(0) without canals: hours first", () -> y.run(0));
        Check.dueArgument("run(101) without canals: hours first", () -> y.run(101));
        Check.due("clock()", y.clock(), 0);
    }

    /** More calls than an object is used for, but the promise tells of hour 100000 all the same. */
    private static void lastHour() {
        IrrigationTurns x = Check.loaded("canal 6 0 9999;inflow hour;");
        for (int i = 0; i < 999; i++) {
            x.run(100);
        }
        x.run(99);
        Check.due("clock()", x.clock(), 99999);
        Check.dueState("run(2)", () -> x.run(2));
        Check.dueArgument("run(101): hours first", () -> x.run(101));
        Check.due("run(1)", x.run(1), 0);
        Check.due("clock()", x.clock(), 100000);
        Check.dueState("run(1)", () -> x.run(1));
        Check.due("expected(0, 100) beyond the last hour", x.expected(0, 100), 999900);
        Check.dueBalance("after the last hour", x);
    }

    private static void forces() {
        IrrigationTurns x = Check.loaded(PLAIN);
        Check.due("force(1)", x.force(1), 1);
        Check.due("force(0)", x.force(0), 2);
        Check.due("isForced(0)", x.isForced(0), true);
        Check.dueState("force(0) again", () -> x.force(0));
        for (int field : new int[] {-1, 2, 12, Integer.MIN_VALUE, Integer.MAX_VALUE}) {
            Check.dueIndex("force(" + field + ")", () -> x.force(field));
        }
        Check.due("run(2)", x.run(2), 30);
        Check.due("stolen(0)", x.stolen(0), 0);
        Check.due("stolen(1)", x.stolen(1), 20);
    }

    private static void swaps() {
        IrrigationTurns x = Check.loaded("canal 1 0 9;turn 0 2;turn 1 3;turn 5 1;");
        Check.due("swapTurns(0, 2)", x.swapTurns(0, 2), 5);
        int[] want = {5, 1, 1, 1, 0, 0, 5};
        for (int hour = 0; hour < want.length; hour++) {
            Check.due("turnAt(" + hour + ")", x.turnAt(hour), want[hour]);
        }
        Check.due("cycleLength()", x.cycleLength(), 6);
        x.run(4);
        Check.due("swapTurns(1, 0) in hour 4", x.swapTurns(1, 0), 0);
        Check.due("swapTurns(2, 1) in hour 4", x.swapTurns(2, 1), 0);
        Check.due("swapTurns(1, 1)", x.swapTurns(1, 1), 0);
        Check.due("swapTurns(0, 1)", x.swapTurns(0, 1), 1);
        for (int entry : new int[] {-1, 3, 12, Integer.MIN_VALUE, Integer.MAX_VALUE}) {
            Check.dueIndex("swapTurns(" + entry + ", 0)", () -> x.swapTurns(entry, 0));
            Check.dueIndex("swapTurns(0, " + entry + ")", () -> x.swapTurns(0, entry));
            Check.dueIndex("swapTurns(" + entry + ", " + entry + ")", () -> x.swapTurns(entry, entry));
        }
        Check.due("turnAt(4)", x.turnAt(4), 1);
    }

    private static void undoOfEach() {
        IrrigationTurns x = Check.loaded("canal 2 10 50;field 0 0 10 0 15 1;turn 1 2;turn 0 3;guard 0;");
        x.run(5);
        x.force(0);
        long[] totals = totals(x);
        long before = x.checksum();
        int arrived = x.arrived(0);
        x.run(3);
        Check.due("fines(0)", x.fines(0), 1);
        x.swapTurns(0, 1);
        Check.due("turnAt(0)", x.turnAt(0), 0);
        Check.due("undo() of swapTurns", x.undo(), 4);
        Check.due("turnAt(0)", x.turnAt(0), 1);
        Check.due("undo() of run", x.undo(), 3);
        Check.due("checksum()", x.checksum(), before);
        Check.due("fines(0)", x.fines(0), 0);
        Check.due("arrived(0)", x.arrived(0), arrived);
        Check.due("clock()", x.clock(), 5);
        for (int what = 0; what <= 5; what++) {
            Check.due("total(" + what + ")", x.total(what), totals[what]);
        }
        Check.due("undo() of force", x.undo(), 2);
        Check.due("isForced(0)", x.isForced(0), false);
        x.force(0);
        Check.due("checksum() as if nothing had been undone", x.checksum(), before);
    }

    private static long[] totals(IrrigationTurns x) {
        long[] row = new long[6];
        for (int what = 0; what < row.length; what++) {
            row[what] = x.total(what);
        }
        return row;
    }

    private static void eightChanges() {
        IrrigationTurns x = Check.loaded(PLAIN);
        for (int i = 0; i < 20; i++) {
            x.run(1);
        }
        for (int left = 7; left >= 0; left--) {
            Check.due("undo()", x.undo(), left);
            Check.due("clock()", x.clock(), 12 + left);
        }
        Check.due("undo() of a ninth change", x.undo(), -1);
        Check.due("clock()", x.clock(), 12);
        x.run(1);
        x.swapTurns(0, 0);
        Check.due("undo(): a swap of one entry with itself is a change", x.undo(), 1);
        Check.due("undo()", x.undo(), 0);
        for (int i = 0; i < 8; i++) {
            x.run(2);
        }
        Check.due("undo()", x.undo(), 7);
        Check.due("undo()", x.undo(), 6);
        x.run(5);
        Check.due("undo(): the change after two undone ones", x.undo(), 6);
        Check.due("clock()", x.clock(), 24);
    }

    private static void undoOfLoad() {
        IrrigationTurns x = Check.loaded(PLAIN + "guard 0;inflow hour*2;");
        x.run(10);
        long before = x.checksum();
        Check.due("load of another text", Check.load(x, "canal 1 0 9;canal from 0 1 0 9;turn 3 4;inflow 8;"), 4);
        x.append(0x7475726e, 0x20332031, 0x3b202020, 0x20202020, 0x20202020);
        Check.due("undo() of load", x.undo(), 2);
        Check.due("canalCount()", x.canalCount(), 1);
        Check.due("fieldCount()", x.fieldCount(), 2);
        Check.due("inflow(7)", x.inflow(7), 14);
        Check.due("cycleLength()", x.cycleLength(), 5);
        Check.due("checksum()", x.checksum(), before);
        Check.due("load(10): undo() left the input buffer alone", x.load(10), 1);
        Check.due("turnAt(0)", x.turnAt(0), 3);
        Check.load(x, "turn 9 1;");
        Check.due("errorOffset()", x.errorOffset(), 5);
        x.undo();
        Check.due("errorOffset() after undo()", x.errorOffset(), 5);
        x.undo();
        Check.due("undo() of the first load", x.undo(), 0);
        Check.due("canalCount()", x.canalCount(), 0);
        Check.due("inflow(7), the default", x.inflow(7), 100);
        Check.due("checksum()", x.checksum(), -1);
        Check.due("undo()", x.undo(), -1);
    }

    private static void throwsAreNoChanges() {
        IrrigationTurns x = Check.loaded(PLAIN);
        x.force(0);
        long before = x.checksum();
        Check.dueState("force(0)", () -> x.force(0));
        Check.dueIndex("force(2)", () -> x.force(2));
        Check.dueArgument("run(0)", () -> x.run(0));
        Check.dueIndex("swapTurns(0, 2)", () -> x.swapTurns(0, 2));
        Check.dueArgument("load(1)", () -> x.load(1));
        Check.due("checksum()", x.checksum(), before);
        Check.due("undo() of force(0)", x.undo(), 1);
        Check.due("isForced(0)", x.isForced(0), false);
    }

    private static void checksums() {
        IrrigationTurns x = Check.loaded("canal 2 0 9999;canal from 0 1 0 9999;field 1 3 10 0 7 2;field 0 4 5 0 9 0;"
                + "turn 4 2;turn 3 4;guard 0 0 1;inflow 11*hour+1;");
        x.run(3);
        x.force(0);
        long[] parts = {3,
            x.waterIn(0, 0), x.waterIn(0, 1), x.waterIn(1, 0),
            x.water(0), x.taken(0), x.stolen(0), 1,
            x.water(1), x.taken(1), x.stolen(1), 0,
            0, 0, 0, 0, 0, 0, x.guardAt()};
        long[] want = {3, 12, 23, 1, 0, 0, 0, 1, 0, 0, 0, 0, 0, 0, 0, 0, 0, 0, 0};
        long sum = 0;
        for (int i = 0; i < want.length; i++) {
            Check.due("part " + i + " of the checksum", parts[i], want[i]);
            sum = 31 * sum + want[i];
        }
        Check.due("checksum()", x.checksum(), sum);
        x.force(1);
        x.run(2);
        Check.due("fines(3)", x.fines(3), 1);
        Check.due("stolen(1): hour 3, then the guard closes it", x.stolen(1), 5);
        long[] later = {5,
            x.waterIn(0, 0), x.waterIn(0, 1), x.waterIn(1, 0),
            x.water(0), x.taken(0), x.stolen(0), 0,
            x.water(1), x.taken(1), 5, 0,
            0, 0, 0, 1, 1, 0, 1};
        long laterSum = 0;
        for (long part : later) {
            laterSum = 31 * laterSum + part;
        }
        Check.due("checksum() later", x.checksum(), laterSum);
    }
}

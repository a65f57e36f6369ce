import java.math.BigInteger;
import java.util.Arrays;

/** The boundary cases of run, force, swapTurns, undo and checksum (promises 26 to 30). */
final class ChangeBoundaries {
    private static final String CANAL = "canal 1 0 9999;";
    private static final String CHILD = "canal from 0 1 0 9999;";
    private static final String PLAIN = CANAL + "field 0 0 10 0 9999 0;field 0 1 20 0 9999 0;turn 0 2;turn 1 3;";

    private ChangeBoundaries() {
    }

    static void test(Sentences due) {
        changes(due);
        runs(due);
        forces(due);
        swaps(due);
        undos(due);
        checksums(due);
    }

    private static void changes(Sentences due) {
        due.test(29, "An object is used for at most 512 calls after it has been made; what later calls answer is free.",
                ChangeBoundaries::lastCall);
        due.test(29, "The changing methods are load (when it succeeds), run, force and swapTurns.",
                ChangeBoundaries::changingMethods);
        due.test(29, "A call counts as a change also if it changes no data.", ChangeBoundaries::idleChanges);
        due.test(29, "The latest 8 changes that have not been undone can be undone, the latest one first.",
                ChangeBoundaries::eightChanges);
        due.test(29, "A method that throws an exception changes nothing.", ChangeBoundaries::throwingMethods);
    }

    private static void runs(Sentences due) {
        due.test(26, "- `hours`: 1 to 100", () -> {
            IrrigationTurns x = Check.loaded(CANAL);
            x.run(1);
            Check.due("clock() after run(1)", x.clock(), 1);
            x.run(100);
            Check.due("clock() after run(100)", x.clock(), 101);
            Check.dueArgumentRange("run", 1, 100, x::run);
        });
        due.test(26, "Returns the sum of what all fields took through their gates in these hours.",
                ChangeBoundaries::takenInRuns);
        due.test(26, "Throws `IllegalArgumentException` if hours is out of range (checked first)", () -> {
            Check.dueArgumentRange("run", 1, 100, Check.loaded(CANAL)::run);
            IrrigationTurns none = new IrrigationTurns();
            for (int hours : new int[] {-1, 0, 101, Integer.MIN_VALUE, Integer.MAX_VALUE}) {
                Check.dueArgument("run(" + hours + ") without canals", () -> none.run(hours));
            }
        });
        due.test(26, "Throws `IllegalStateException` if there are no canals,", () -> {
            Check.dueState("run(1) of a new object", () -> new IrrigationTurns().run(1));
            Check.dueState("run(100) of a new object", () -> new IrrigationTurns().run(100));
            IrrigationTurns x = Check.loaded("turn 0 1;inflow 7;");
            Check.dueState("run(1) without canals", () -> x.run(1));
            Check.due("load of one canal", Check.load(x, CANAL), 1);
            Check.due("run(1) with one canal", x.run(1), 0);
            Check.due("load of no canal", x.load(0), 0);
            Check.dueState("run(1) when the canal is gone", () -> x.run(1));
        });
        due.test(26, "or if the clock would exceed 100000", ChangeBoundaries::lastHour);
    }

    private static void forces(Sentences due) {
        due.test(27, "- `field`: index of a field", ChangeBoundaries::forcedIndexes);
        due.test(27, "Returns the number of forced gates then.", ChangeBoundaries::numberOfForced);
        due.test(27, "Throws `IndexOutOfBoundsException` if there is no such field (checked first)",
                ChangeBoundaries::noFieldToForce);
        due.test(27, "Throws `IllegalStateException` if the gate is forced already", ChangeBoundaries::forcedAlready);
    }

    private static void swaps(Sentences due) {
        due.test(28, "Exchanges two entries of the rotation, with their villages and hours.", ChangeBoundaries::exchanged);
        due.test(28, "- `one`: index of an entry, from 0", () -> dueEntries(false));
        due.test(28, "- `other`: index of an entry", () -> dueEntries(true));
        due.test(28, "Returns the village that has the turn in the present hour then.", ChangeBoundaries::turnAfterSwap);
        due.test(28, "Throws `IndexOutOfBoundsException` if one of the entries does not exist",
                ChangeBoundaries::missingEntries);
    }

    private static void undos(Sentences due) {
        due.test(29, "Undoes the latest change that has not been undone.", ChangeBoundaries::undoOfEach);
        due.test(29, "The input buffer and the error offset are not affected.", ChangeBoundaries::bufferAfterUndo);
        due.test(29, "Returns the number of changes that can still be undone;", ChangeBoundaries::stillUndoable);
        due.test(29, "-1 if there was none to undo, and nothing changes then.", ChangeBoundaries::nothingToUndo);
    }

    private static void checksums(Sentences due) {
        due.test(30, "It starts at 0;", () -> Check.due("checksum() of a new object", new IrrigationTurns().checksum(), -1));
        due.test(30, "each number n in the following order replaces it by 31 * checksum + n, wrapping around on overflow of a "
                + "long:", ChangeBoundaries::wrappedChecksum);
        due.test(30, "the clock;", ChangeBoundaries::clockInChecksum);
        due.test(30, "for each canal the amounts waterIn(canal, 0) to waterIn(canal, delay - 1);",
                ChangeBoundaries::delaysInChecksum);
        due.test(30, "for each field its water, taken(field), stolen(field), and 1 or 0 (whether its gate is forced);",
                ChangeBoundaries::fieldsInChecksum);
        due.test(30, "the fines of villages 0 to 5;", ChangeBoundaries::finesInChecksum);
        due.test(30, "guardAt().", ChangeBoundaries::guardInChecksum);
    }

    /** 2 appends and a load, then 508 times run(1), and the last call. */
    private static void lastCall() {
        IrrigationTurns x = new IrrigationTurns();
        x.append(0x63616e61, 0x6c203120, 0x30203939, 0x39393b66, 0x69656c64);
        x.append(0x20302030, 0x20312030, 0x20393939, 0x3920303b, 0x7475726e);
        x.append(0x20302031, 0x3b202020, 0x20202020, 0x20202020, 0x20202020);
        Check.due("load", x.load(47), 3);
        for (int call = 5; call < 512; call++) {
            Check.due("run(1), call " + call, x.run(1), call == 5 ? 0 : 1);
        }
        Check.due("taken(0), call 512", x.taken(0), 506);
        IrrigationTurns y = new IrrigationTurns();
        for (int call = 1; call <= 500; call++) {
            Check.due("load(0), call " + call, y.load(0), 0);
        }
        for (int left = 7; left >= 0; left--) {
            Check.due("undo(), call " + (508 - left), y.undo(), left);
        }
        Check.due("undo(), call 509", y.undo(), -1);
    }

    private static int undoable(IrrigationTurns x) {
        int undone = 0;
        while (undone < 20 && x.undo() >= 0) {
            undone++;
        }
        return undone;
    }

    private static void changingMethods() {
        Check.due("changes of a new object", undoable(new IrrigationTurns()), 0);
        Check.due("changes after a load", undoable(Check.loaded(PLAIN)), 1);
        IrrigationTurns wrong = Check.loaded(PLAIN);
        Check.load(wrong, "turn 6 1;");
        Check.due("changes after a load and one with an error", undoable(wrong), 1);
        IrrigationTurns run = Check.loaded(PLAIN);
        run.run(100);
        Check.due("changes after a load and run(100)", undoable(run), 2);
        IrrigationTurns force = Check.loaded(PLAIN);
        force.force(0);
        Check.due("changes after a load and force(0)", undoable(force), 2);
        IrrigationTurns swap = Check.loaded(PLAIN);
        swap.swapTurns(0, 1);
        Check.due("changes after a load and swapTurns(0, 1)", undoable(swap), 2);
        IrrigationTurns others = Check.loaded(PLAIN);
        others.run(5);
        readAll(others);
        Check.due("changes after calls that change nothing", undoable(others), 2);
    }

    private static void readAll(IrrigationTurns x) {
        x.append(0, 0, 0, 0, 0);
        int sum = x.errorOffset() + x.canalCount() + x.fieldCount() + x.clock() + x.cycleLength() + x.turnAt(0) + x.inflow(0)
                + x.guardAt() + x.parent(0) + x.waterIn(0, 0) + x.arrived(0) + x.water(0) + x.taken(0) + x.stolen(0)
                + x.fines(0) + x.fairHours(0, 9) + x.hoursUntil(0, 9) + x.expected(0, 9) + x.suspect(0, 9, 9);
        Check.isTrue("the sum counts", sum + x.total(0) + x.checksum() != 0 && x.isOpen(0) != x.isForced(0));
    }

    private static void idleChanges() {
        IrrigationTurns x = new IrrigationTurns();
        Check.due("load of nothing", x.load(0), 0);
        Check.due("load of nothing again", x.load(0), 0);
        Check.due("undo()", x.undo(), 1);
        Check.due("undo()", x.undo(), 0);
        Check.due("undo()", x.undo(), -1);
        IrrigationTurns y = Check.loaded("turn 3 1;turn 3 1;");
        Check.due("swapTurns(0, 0)", y.swapTurns(0, 0), 3);
        Check.due("swapTurns(0, 1) of equal entries", y.swapTurns(0, 1), 3);
        Check.due("the same text", Check.load(y, "turn 3 1;turn 3 1;"), 2);
        Check.due("undo()", y.undo(), 3);
        Check.due("undo()", y.undo(), 2);
        Check.due("undo()", y.undo(), 1);
        IrrigationTurns full = Check.loaded(PLAIN);
        full.run(3);
        for (int i = 0; i < 8; i++) {
            full.swapTurns(1, 1);
        }
        Check.due("changes behind 8 that change no data", undoable(full), 8);
        Check.due("clock(): run(3) is out of reach", full.clock(), 3);
    }

    private static void eightChanges() {
        for (int runs = 1; runs <= 20; runs++) {
            IrrigationTurns x = Check.loaded(CANAL);
            for (int i = 0; i < runs; i++) {
                x.run(1);
            }
            int reach = Math.min(8, runs + 1);
            for (int left = reach - 1; left >= 0; left--) {
                Check.due("undo() after a load and " + runs + " runs", x.undo(), left);
                int clock = runs - (reach - left);
                Check.due("clock() after undo()", x.clock(), Math.max(0, clock));
                Check.due("canalCount() after undo()", x.canalCount(), clock >= 0 ? 1 : 0);
            }
            Check.due("undo() of one more change after " + runs + " runs", x.undo(), -1);
        }
        IrrigationTurns y = Check.loaded(CANAL);
        for (int i = 0; i < 8; i++) {
            y.run(1);
        }
        Check.due("undo()", y.undo(), 7);
        y.run(2);
        Check.due("undo(): an undone change makes room", y.undo(), 7);
        Check.due("clock()", y.clock(), 7);
    }

    private static void throwingMethods() {
        IrrigationTurns x = Check.loaded("canal 2 10 50;field 0 0 10 0 15 1;turn 0 2;turn 1 2;guard 0;inflow 77;");
        x.run(5);
        x.force(0);
        Check.due("append of \"turn 3 1;\"", x.append(0x7475726e, 0x20332031, 0x3b202020, 0x20202020, 0x20202020), 20);
        long before = x.checksum();
        Check.Call[] wrong = {() -> x.load(-1), () -> x.load(21), () -> x.turnAt(-1), () -> x.inflow(100001), () -> x.parent(1),
            () -> x.waterIn(1, 0), () -> x.waterIn(0, 6), () -> x.arrived(-1), () -> x.isOpen(1), () -> x.isForced(1),
            () -> x.water(1), () -> x.taken(1), () -> x.stolen(1), () -> x.fines(6), () -> x.total(6), () -> x.fairHours(6, 1),
            () -> x.fairHours(0, 1001), () -> x.hoursUntil(1, 1), () -> x.hoursUntil(0, 101), () -> x.expected(1, 1),
            () -> x.expected(0, 101), () -> x.suspect(1, 1, 1), () -> x.suspect(0, 51, 1), () -> x.run(0), () -> x.run(101),
            () -> x.force(1), () -> x.force(0), () -> x.swapTurns(0, 2), () -> x.swapTurns(-1, 0)};
        for (int i = 0; i < wrong.length; i++) {
            boolean threw = false;
            try {
                wrong[i].make();
            } catch (IllegalArgumentException | IllegalStateException | IndexOutOfBoundsException expected) {
                threw = true;
            }
            Check.isTrue("the wrong call " + i + " throws", threw);
            Check.due("checksum() after the wrong call " + i, x.checksum(), before);
            Check.due("turnAt(0) after the wrong call " + i, x.turnAt(0), 0);
            Check.due("total(0) after the wrong call " + i, x.total(0), 385);
            Check.due("errorOffset() after the wrong call " + i, x.errorOffset(), -1);
        }
        IrrigationTurns none = Check.loaded("turn 1 1;");
        Check.dueState("run(1) without canals", () -> none.run(1));
        Check.due("undo() of the load, the only change", none.undo(), 0);
        Check.due("load(20) of what was appended before", x.load(20), 1);
        Check.due("turnAt(0)", x.turnAt(0), 3);
        Check.due("undo() of the last load: 3 changes before it", x.undo(), 3);
    }

    private static void takenInRuns() {
        IrrigationTurns x = Check.loaded(PLAIN);
        Check.due("run(1), nothing has arrived", x.run(1), 0);
        Check.due("run(1), field 0", x.run(1), 10);
        Check.due("run(3), field 1", x.run(3), 60);
        Check.due("run(5)", x.run(5), 80);
        x.force(0);
        Check.due("run(5), field 0 in all hours", x.run(5), 110);
        Check.due("run(100)", x.run(100), 2200);
        IrrigationTurns great = Check.loaded(CANAL + "field 0 0 999 0 9999 0;".repeat(12) + "turn 0 99;inflow 9999;");
        great.run(1);
        Check.due("run(100) of 9999 in each hour", great.run(100), 999900);
        IrrigationTurns over = Check.loaded(CANAL + "field 0 1 9 0 9999 0;field 0 0 9 0 1 0 over 0;turn 0 99;");
        over.run(1);
        Check.due("run(1): what runs over is not taken once more", over.run(1), 9);
        Check.due("run(100) without fields", Check.loaded(CANAL).run(100), 0);
    }

    /** More calls than an object is used for, but the promise tells of hour 100000 all the same. */
    private static void lastHour() {
        IrrigationTurns x = Check.loaded(CANAL);
        for (int i = 0; i < 999; i++) {
            x.run(100);
        }
        x.run(1);
        Check.due("clock()", x.clock(), 99901);
        Check.dueState("run(100)", () -> x.run(100));
        Check.due("clock()", x.clock(), 99901);
        x.run(99);
        Check.due("clock() after run(99)", x.clock(), 100000);
        Check.dueState("run(1)", () -> x.run(1));
        Check.dueArgument("run(0)", () -> x.run(0));
        x.undo();
        x.undo();
        Check.due("clock() after undo()", x.clock(), 99900);
        x.run(100);
        Check.due("clock() after run(100)", x.clock(), 100000);
    }

    private static void noFieldToForce() {
        Check.dueIndex("force(0) of a new object", () -> new IrrigationTurns().force(0));
        IrrigationTurns none = Check.loaded(CANAL);
        Check.dueIndex("force(0) without fields", () -> none.force(0));
        IrrigationTurns one = Check.loaded(CANAL + "field 0 0 1 0 9 0;");
        one.force(0);
        for (int field : new int[] {-1, 1, 12, Integer.MIN_VALUE, Integer.MAX_VALUE}) {
            Check.dueIndex("force(" + field + ") when the only gate is forced", () -> one.force(field));
        }
        IrrigationTurns full = Check.loaded(CANAL + "field 0 0 1 0 9 0;".repeat(12));
        Check.due("force(11)", full.force(11), 1);
        Check.dueIndex("force(12)", () -> full.force(12));
    }

    private static void forcedIndexes() {
        for (int count : new int[] {2, 12}) {
            IrrigationTurns x = Check.loaded(CANAL + "field 0 0 1 0 9 0;".repeat(count));
            Check.dueIndexRange("force", count, x::force);
            Check.due("isForced(0)", x.isForced(0), true);
            Check.due("isForced(" + (count - 1) + ")", x.isForced(count - 1), true);
        }
    }

    private static void numberOfForced() {
        IrrigationTurns x = Check.loaded(CANAL + CHILD + "field 1 0 1 0 9 0;" + "field 0 0 1 0 9 0;".repeat(11) + "guard 0 1;");
        for (int field = 11; field >= 0; field--) {
            Check.due("force(" + field + ")", x.force(field), 12 - field);
        }
        x.run(1);
        Check.due("force(0), which the guard has closed", x.force(0), 12);
        x.run(1);
        Check.due("force(11), when the guard has closed eleven", x.force(11), 2);
        x.undo();
        Check.due("force(1) after undo()", x.force(1), 2);
    }

    private static void forcedAlready() {
        IrrigationTurns x = Check.loaded(CANAL + CHILD + "field 0 0 1 0 9 0;field 0 0 1 0 9 0;turn 0 99;guard 0 1 0;");
        Check.due("force(0) of an open gate", x.force(0), 1);
        Check.dueState("force(0) again", () -> x.force(0));
        Check.due("force(1)", x.force(1), 2);
        x.run(1);
        Check.dueState("force(0): the guard is elsewhere", () -> x.force(0));
        x.run(1);
        Check.due("force(0) when the guard has closed it", x.force(0), 1);
        x.undo();
        Check.due("force(0) after undo()", x.force(0), 1);
        x.load(0);
        Check.dueIndex("force(0) when the field is gone", () -> x.force(0));
    }

    private static void exchanged() {
        IrrigationTurns x = Check.loaded("turn 3 2;turn 5 1;turn 0 4;");
        x.swapTurns(0, 2);
        int[] want = {0, 0, 0, 0, 5, 3, 3, 0};
        for (int hour = 0; hour < want.length; hour++) {
            Check.due("turnAt(" + hour + ") after swapTurns(0, 2)", x.turnAt(hour), want[hour]);
        }
        x.swapTurns(2, 1);
        int[] later = {0, 0, 0, 0, 3, 3, 5, 0};
        for (int hour = 0; hour < later.length; hour++) {
            Check.due("turnAt(" + hour + ") after swapTurns(2, 1)", x.turnAt(hour), later[hour]);
        }
        x.swapTurns(1, 1);
        Check.due("turnAt(5) after swapTurns(1, 1)", x.turnAt(5), 3);
        Check.due("cycleLength()", x.cycleLength(), 7);
    }

    private static void swap(IrrigationTurns x, boolean isOther, int entry) {
        if (isOther) {
            x.swapTurns(0, entry);
        } else {
            x.swapTurns(entry, 0);
        }
    }

    private static void dueEntries(boolean isOther) {
        String call = isOther ? "swapTurns(0, other)" : "swapTurns(one, 0)";
        Check.dueIndex(call + " without entries", () -> swap(new IrrigationTurns(), isOther, 0));
        for (int count : new int[] {1, 2, 12}) {
            IrrigationTurns x = Check.loaded("turn 1 1;".repeat(count));
            Check.dueIndexRange(call + " of " + count, count, entry -> swap(x, isOther, entry));
        }
        IrrigationTurns y = Check.loaded("turn 1 1;".repeat(11) + "turn 4 99;");
        swap(y, isOther, 11);
        Check.due("turnAt(98): the last entry comes first", y.turnAt(98), 4);
        Check.due("turnAt(99)", y.turnAt(99), 1);
    }

    private static void missingEntries() {
        IrrigationTurns x = Check.loaded("turn 1 1;turn 2 1;");
        Check.due("swapTurns(1, 0), the last one that exists", x.swapTurns(1, 0), 2);
        Check.due("swapTurns(1, 1)", x.swapTurns(1, 1), 2);
        Check.dueIndex("swapTurns(0, 2)", () -> x.swapTurns(0, 2));
        Check.dueIndex("swapTurns(2, 0)", () -> x.swapTurns(2, 0));
        Check.dueIndex("swapTurns(2, 2)", () -> x.swapTurns(2, 2));
        Check.dueIndex("swapTurns(-1, 0)", () -> x.swapTurns(-1, 0));
        Check.dueIndex("swapTurns(0, -1)", () -> x.swapTurns(0, -1));
        Check.dueIndex("swapTurns(-1, 2)", () -> x.swapTurns(-1, 2));
        Check.due("turnAt(0): nothing was exchanged", x.turnAt(0), 2);
        Check.dueIndex("swapTurns(0, 0) without entries", () -> Check.loaded(CANAL).swapTurns(0, 0));
    }

    private static void turnAfterSwap() {
        IrrigationTurns x = Check.loaded(CANAL + "turn 3 1;turn 5 3;");
        Check.due("swapTurns(0, 1) in hour 0", x.swapTurns(0, 1), 5);
        x.run(2);
        Check.due("swapTurns(0, 0) in hour 2, the last one of the first entry", x.swapTurns(0, 0), 5);
        x.run(1);
        Check.due("swapTurns(0, 0) in hour 3, the first one of the second entry", x.swapTurns(0, 0), 3);
        Check.due("swapTurns(1, 0) in hour 3", x.swapTurns(1, 0), 5);
        x.run(1);
        Check.due("swapTurns(1, 1) in hour 4, the first one of the next cycle", x.swapTurns(1, 1), 3);
    }

    private static void undoOfEach() {
        IrrigationTurns x = Check.loaded("canal 2 10 50;field 0 0 10 0 15 1;turn 0 2;turn 1 2;guard 0;inflow 77;");
        x.run(5);
        long[] sums = new long[5];
        long[] entered = new long[5];
        int[] turns = new int[5];
        for (int i = 0; i < 5; i++) {
            sums[i] = x.checksum();
            entered[i] = x.total(0);
            turns[i] = x.turnAt(0);
            switch (i) {
                case 0 -> x.force(0);
                case 1 -> x.run(3);
                case 2 -> x.swapTurns(0, 1);
                case 3 -> Check.load(x, "canal 1 0 9;turn 5 1;");
                default -> x.run(1);
            }
        }
        for (int i = 4; i >= 0; i--) {
            Check.due("undo()", x.undo(), i + 2);
            Check.due("checksum() after undo()", x.checksum(), sums[i]);
            Check.due("total(0) after undo()", x.total(0), entered[i]);
            Check.due("turnAt(0) after undo()", x.turnAt(0), turns[i]);
            Check.dueBalance("after undo()", x);
        }
    }

    private static void bufferAfterUndo() {
        IrrigationTurns x = Check.loaded(PLAIN);
        Check.load(x, "turn 6 1;");
        Check.due("append of \"turn 3 1;\"", x.append(0x7475726e, 0x20332031, 0x3b202020, 0x20202020, 0x20202020), 20);
        Check.due("undo()", x.undo(), 0);
        Check.due("errorOffset()", x.errorOffset(), 5);
        Check.dueArgument("load(21)", () -> x.load(21));
        Check.due("load(20)", x.load(20), 1);
        Check.due("turnAt(0)", x.turnAt(0), 3);
        Check.due("errorOffset()", x.errorOffset(), -1);
        Check.due("undo() of the load", x.undo(), 0);
        Check.dueArgument("load(1): undo() doesn't bring the bytes back", () -> x.load(1));
        Check.due("errorOffset()", x.errorOffset(), -1);
    }

    private static void stillUndoable() {
        IrrigationTurns x = Check.loaded(CANAL);
        for (int i = 0; i < 7; i++) {
            x.run(1);
        }
        for (int left = 7; left >= 0; left--) {
            Check.due("undo() of 8 changes", x.undo(), left);
        }
        Check.due("undo()", x.undo(), -1);
        IrrigationTurns y = Check.loaded(CANAL);
        for (int i = 0; i < 8; i++) {
            y.run(1);
        }
        Check.due("undo() of 9 changes", y.undo(), 7);
        Check.due("undo()", y.undo(), 6);
        y.run(1);
        Check.due("undo() of a new change", y.undo(), 6);
    }

    private static void nothingToUndo() {
        IrrigationTurns x = new IrrigationTurns();
        Check.due("undo() of a new object", x.undo(), -1);
        Check.due("undo() once more", x.undo(), -1);
        Check.due("load", Check.load(x, CANAL), 1);
        Check.due("undo() of the load", x.undo(), 0);
        Check.due("undo()", x.undo(), -1);
        Check.due("canalCount()", x.canalCount(), 0);
        IrrigationTurns y = Check.loaded(PLAIN);
        for (int i = 0; i < 9; i++) {
            y.run(1);
        }
        Check.due("changes that can be undone", undoable(y), 8);
        long before = y.checksum();
        Check.due("undo() of a ninth change", y.undo(), -1);
        Check.due("checksum()", y.checksum(), before);
        Check.due("clock()", y.clock(), 1);
        y.run(1);
        Check.due("undo() of a change after that", y.undo(), 0);
    }

    /** The checksum by the promise's own order, from what the other promises answer. */
    private static void dueChecksum(String when, IrrigationTurns x, int... delays) {
        BigInteger sum = BigInteger.valueOf(x.clock());
        for (int canal = 0; canal < delays.length; canal++) {
            for (int hours = 0; hours < delays[canal]; hours++) {
                sum = next(sum, x.waterIn(canal, hours));
            }
        }
        for (int field = 0; field < x.fieldCount(); field++) {
            sum = next(next(sum, x.water(field)), x.taken(field));
            sum = next(next(sum, x.stolen(field)), x.isForced(field) ? 1 : 0);
        }
        for (int village = 0; village < 6; village++) {
            sum = next(sum, x.fines(village));
        }
        Check.due("canals of the checksum", delays.length, x.canalCount());
        Check.due("checksum() " + when, x.checksum(), next(sum, x.guardAt()).longValue());
    }

    private static BigInteger next(BigInteger sum, int number) {
        return sum.multiply(BigInteger.valueOf(31)).add(BigInteger.valueOf(number));
    }

    /** 31 to the power of 12 fits into a long and 31 to the power of 13 does not. */
    private static void wrappedChecksum() {
        StringBuilder text = new StringBuilder("canal 6 0 9999;");
        for (int canal = 1; canal < 16; canal++) {
            text.append("canal from 0 6 0 99 share 9;");
        }
        int[] delays = new int[16];
        Arrays.fill(delays, 6);
        IrrigationTurns x = Check.loaded(text + "field 15 0 9 9 99 1;".repeat(10) + "field 9 5 9 9 9 0;turn 0 3;turn 5 1;"
                + "guard 0;");
        for (int i = 0; i < 40; i++) {
            dueChecksum("after " + i + " hours", x, delays);
            x.run(1);
        }
        IrrigationTurns fits = Check.loaded("canal 4 0 9999;inflow 1;");
        fits.run(1);
        long want = BigInteger.valueOf(31).pow(11).add(BigInteger.valueOf(31).pow(7)).longValueExact() - 1;
        Check.due("checksum() of a clock of 1 and eleven numbers behind it", fits.checksum(), want);
        IrrigationTurns wraps = Check.loaded("canal 6 0 9999;");
        wraps.run(100);
        dueChecksum("of a clock of 100 with 14 numbers", wraps, 6);
        Check.isTrue("the checksum has wrapped around", BigInteger.valueOf(100).multiply(BigInteger.valueOf(31).pow(13))
                .bitLength() > 63);
    }

    private static void clockInChecksum() {
        IrrigationTurns x = Check.loaded("canal 1 0 9999;inflow 0;");
        long power = 31L * 31 * 31 * 31 * 31 * 31 * 31 * 31;
        Check.due("checksum() at clock 0", x.checksum(), -1);
        x.run(1);
        Check.due("checksum() at clock 1", x.checksum(), power - 1);
        x.run(100);
        Check.due("checksum() at clock 101", x.checksum(), 101 * power - 1);
    }

    private static void delaysInChecksum() {
        for (int delay = 1; delay <= 6; delay++) {
            IrrigationTurns x = Check.loaded("canal " + delay + " 0 9999;canal from 0 " + (7 - delay) + " 0 9999;"
                    + "field 1 0 1 0 9 0;turn 0 99;inflow hour*7+1;");
            for (int hours = 0; hours < 15; hours++) {
                dueChecksum("after " + hours + " hours", x, delay, 7 - delay);
                x.run(1);
            }
        }
    }

    private static void fieldsInChecksum() {
        IrrigationTurns x = Check.loaded(CANAL + "field 0 0 9 0 11 2;field 0 1 7 0 9 1 over 0;turn 0 2;turn 1 1;inflow 12;");
        for (int hours = 0; hours < 12; hours++) {
            dueChecksum("after " + hours + " hours", x, 1);
            if (hours == 4 || hours == 8) {
                x.force(hours / 4 - 1);
                dueChecksum("when a gate is forced", x, 1);
            }
            x.run(1);
        }
        Check.isTrue("both fields have stolen", x.stolen(0) > 0 && x.stolen(1) > 0);
        IrrigationTurns none = Check.loaded(CANAL);
        none.run(1);
        dueChecksum("without fields", none, 1);
    }

    private static void finesInChecksum() {
        for (int village = 0; village < 6; village++) {
            IrrigationTurns x = Check.loaded("canal 1 0 9999;field 0 " + village + " 1 0 9 0;guard 0;inflow 0;");
            x.force(0);
            x.run(1);
            Check.due("fines(" + village + ")", x.fines(village), 1);
            dueChecksum("with a fine of village " + village, x, 1);
        }
    }

    private static void guardInChecksum() {
        IrrigationTurns x = Check.loaded(CANAL + CHILD.repeat(15) + "guard 0 15 7;inflow 0;");
        int[] delays = new int[16];
        Arrays.fill(delays, 1);
        for (int hours = 0; hours < 5; hours++) {
            dueChecksum("with the guard at " + x.guardAt(), x, delays);
            x.run(1);
        }
        Check.due("checksum() with the guard at 0", Check.loaded(CANAL + "guard 0;").checksum(), 0);
        Check.due("checksum() without a guard", Check.loaded(CANAL).checksum(), -1);
        Check.due("checksum() with the guard at 15", Check.loaded(CANAL + CHILD.repeat(15) + "guard 15;").checksum(), 15);
    }
}

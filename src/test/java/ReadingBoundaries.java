/** The boundary cases of the promises 1 to 21 as far as they are not those of the setup text or of an hour. */
final class ReadingBoundaries {
    private static final String CANAL = "canal 1 0 9999;";
    private static final String CHILD = "canal from 0 1 0 9999;";
    private static final String FIELD = "field 0 0 10 0 9999 0;";
    private static final String NO_CANAL = "Throws `IndexOutOfBoundsException` if there is no such canal";
    private static final String NO_FIELD = "Throws `IndexOutOfBoundsException` if there is no such field";
    private static final int SPACES = 0x20202020;

    private ReadingBoundaries() {
    }

    static void test(Sentences due) {
        buffer(due);
        loads(due);
        counts(due);
        hours(due);
        canals(due);
        fields(due);
        villages(due);
    }

    private static void buffer(Sentences due) {
        due.test(1, "Creates an object without canals, fields, rotation and guard, with the default inflow and an empty input "
                + "buffer.", ReadingBoundaries::newObject);
        due.test(2, "Appends 20 bytes to the input buffer: the 4 bytes of each argument, the most significant byte first.",
                ReadingBoundaries::bytesOfArguments);
        due.test(2, "Returns the new length of the buffer; -1 if it would exceed 900 bytes, and the buffer is unchanged then.",
                ReadingBoundaries::fullBuffer);
    }

    private static void loads(Sentences due) {
        due.test(3, "Reads the first bytes of the input buffer as a setup text and replaces all data by it.",
                ReadingBoundaries::firstBytes);
        due.test(3, "The canals and fields are empty, the clock is 0, no gate is forced, and all totals and fines are 0 then.",
                ReadingBoundaries::freshData);
        due.test(3, "The input buffer is empty afterwards, also if the text has an error.", ReadingBoundaries::emptyBuffer);
        due.test(3, "An error leaves all other data unchanged.", ReadingBoundaries::errorChangesNothing);
        due.test(3, "- `length`: the number of bytes to read", ReadingBoundaries::bytesToRead);
        due.test(3, "Returns the number of statements; or the error code of the first error.",
                ReadingBoundaries::numberOfStatements);
        due.test(3, "Throws `IllegalArgumentException` if length is negative or greater than the length of the buffer; the "
                + "buffer is unchanged then", ReadingBoundaries::wrongLength);
        due.test(4, "Returns the offset of the error found by the latest call of load that did not throw;",
                ReadingBoundaries::latestError);
        due.test(4, "-1 if it found none or if there was no such call.", ReadingBoundaries::noError);
    }

    private static void counts(Sentences due) {
        due.test(5, "Returns the number of canals.", () -> dueCount("canalCount()", CANAL, CHILD, 16));
        due.test(6, "Returns the number of fields.", () -> dueCount("fieldCount()", CANAL, FIELD, 12));
        due.test(7, "Returns the clock.", ReadingBoundaries::clock);
        due.test(7, "The clock is the number of hours that have passed;", ReadingBoundaries::passedHours);
        due.test(7, "it is 0 after a load.", ReadingBoundaries::clockAfterLoad);
        due.test(15, "its number is the clock.", ReadingBoundaries::presentHour);
        due.test(8, "Returns the sum of the hours of all entries of the rotation.", ReadingBoundaries::cycle);
    }

    private static void hours(Sentences due) {
        String hour = "- `hour`: number of an hour, 0 to 100000";
        String thrown = "Throws `IllegalArgumentException` if hour is out of range";
        due.test(9, hour, () -> {
            IrrigationTurns x = Check.loaded("turn 3 1;turn 5 2;");
            Check.due("turnAt(0)", x.turnAt(0), 3);
            Check.due("turnAt(100000)", x.turnAt(100000), 5);
            Check.dueArgumentRange("turnAt", 0, 100000, x::turnAt);
        });
        due.test(9, "Returns the village that has the turn in this hour; -1 if none has it.", ReadingBoundaries::turnOrNone);
        due.test(9, thrown, () -> {
            Check.dueArgumentRange("turnAt", 0, 100000, Check.loaded("turn 3 1;")::turnAt);
            Check.dueArgumentRange("turnAt without a rotation", 0, 100000, new IrrigationTurns()::turnAt);
        });
        due.test(10, hour, () -> {
            IrrigationTurns x = Check.loaded("inflow hour-95*1000;");
            Check.due("inflow(0)", x.inflow(0), 0);
            Check.due("inflow(100000)", x.inflow(100000), 5000);
            Check.dueArgumentRange("inflow", 0, 100000, x::inflow);
        });
        due.test(10, thrown, () -> {
            Check.dueArgumentRange("inflow", 0, 100000, Check.loaded("inflow hour;")::inflow);
            Check.dueArgumentRange("inflow without a statement", 0, 100000, new IrrigationTurns()::inflow);
        });
        due.test(11, "Returns the canal where the guard is; -1 if there is no guard.", ReadingBoundaries::guardOrNone);
    }

    private static void canals(Sentences due) {
        due.test(12, "Canals and fields have indexes from 0 in the order of their declaration.", ReadingBoundaries::indexes);
        due.test(12, "Returns its parent; -1 for canal 0.", ReadingBoundaries::parents);
        dueCanalIndex(due, 12, (x, canal) -> x.parent(canal));
        due.test(13, "- `hours`: 0 to 5", () -> {
            IrrigationTurns x = Check.loaded("canal 6 0 9999;");
            x.run(1);
            Check.due("waterIn(0, 5)", x.waterIn(0, 5), 100);
            Check.dueArgumentRange("waterIn(0, hours)", 0, 5, hours -> x.waterIn(0, hours));
        });
        due.test(13, "Returns the amount in the canal that arrives at its end in the hour that is so many hours after the "
                + "present one; 0 if hours is not less than the delay.", ReadingBoundaries::amountsAhead);
        due.test(13, "What is yet to enter the canal does not count.", ReadingBoundaries::yetToEnter);
        due.test(13, "- `canal`: index of a canal", () -> dueCanalIndexes((x, canal) -> x.waterIn(canal, 0)));
        due.test(13, NO_CANAL + " (checked first)", () -> {
            dueCanalIndexes((x, canal) -> x.waterIn(canal, 5));
            IrrigationTurns x = Check.loaded(CANAL);
            Check.dueArgument("waterIn(0, 6)", () -> x.waterIn(0, 6));
            Check.dueIndex("waterIn(1, 6)", () -> x.waterIn(1, 6));
            Check.dueIndex("waterIn(-1, -1)", () -> x.waterIn(-1, -1));
            Check.dueIndex("waterIn(0, 6) without canals", () -> new IrrigationTurns().waterIn(0, 6));
        });
        due.test(13, "Throws `IllegalArgumentException` if hours is out of range", () -> {
            IrrigationTurns x = Check.loaded(CANAL + "canal from 0 6 0 9;");
            Check.dueArgumentRange("waterIn(0, hours)", 0, 5, hours -> x.waterIn(0, hours));
            Check.dueArgumentRange("waterIn(1, hours)", 0, 5, hours -> x.waterIn(1, hours));
        });
        due.test(14, "Returns the amount that arrived at the end of the canal in the latest simulated hour; 0 if none was "
                + "simulated since the load.", ReadingBoundaries::latestArrival);
        dueCanalIndex(due, 14, (x, canal) -> x.arrived(canal));
    }

    private static void fields(Sentences due) {
        due.test(15, "Returns whether its gate is open in the present hour.", ReadingBoundaries::openNow);
        dueFieldIndex(due, 15, (x, field) -> x.isOpen(field));
        due.test(16, "Returns whether its gate is forced.", ReadingBoundaries::forcedGates);
        dueFieldIndex(due, 16, (x, field) -> x.isForced(field));
        due.test(17, "Returns the water that it holds.", ReadingBoundaries::heldWater);
        dueFieldIndex(due, 17, (x, field) -> x.water(field));
        due.test(18, "Returns the sum of what it took through its gate.", ReadingBoundaries::takenWater);
        dueFieldIndex(due, 18, (x, field) -> x.taken(field));
        due.test(19, "Returns the part of taken(field) that it took in hours in which its village did not have the turn.",
                ReadingBoundaries::stolenWater);
        dueFieldIndex(due, 19, (x, field) -> x.stolen(field));
    }

    private static void villages(Sentences due) {
        due.test(20, "- `village`: a village, 0 to 5", () -> {
            IrrigationTurns x = Check.loaded(CANAL + "field 0 0 1 0 9 0;field 0 5 1 0 9 0;guard 0;");
            x.force(0);
            x.force(1);
            x.run(1);
            Check.due("fines(0)", x.fines(0), 1);
            Check.due("fines(5)", x.fines(5), 1);
            Check.due("fines(1)", x.fines(1), 0);
            Check.due("fines(4)", x.fines(4), 0);
            Check.dueIndexRange("fines", 6, x::fines);
        });
        due.test(20, "Returns the fines of the village.", ReadingBoundaries::fines);
        due.test(20, "Throws `IndexOutOfBoundsException` if there is no such village",
                () -> Check.dueIndexRange("fines of a new object", 6, new IrrigationTurns()::fines));
        due.test(21, "- `what`: 0: the sum of the inflows of all simulated hours; 1: the water in all canals; 2: the water "
                + "in all fields; 3: the sum of what was spilled; 4: the sum of what was lost in canals; 5: the sum of what "
                + "seeped away", ReadingBoundaries::totals);
        due.test(21, "Returns the amount (the amount for 0 is the sum of the other five).", ReadingBoundaries::sumOfTotals);
        due.test(21, "Throws `IllegalArgumentException` if what is not 0 to 5", () -> {
            Check.dueArgumentRange("total", 0, 5, Check.loaded(CANAL)::total);
            Check.dueArgumentRange("total of a new object", 0, 5, new IrrigationTurns()::total);
        });
    }

    private interface IndexCall {
        void make(IrrigationTurns x, int index);
    }

    /** For a new object, for one canal and for all sixteen, the last index that there is and the first that there isn't. */
    private static void dueCanalIndex(Sentences due, int promise, IndexCall call) {
        due.test(promise, NO_CANAL, () -> dueCanalIndexes(call));
        due.test(promise, "- `canal`: index of a canal", () -> dueCanalIndexes(call));
    }

    private static void dueCanalIndexes(IndexCall call) {
        dueIndexes("canal", CANAL, CHILD, 16, call);
    }

    private static void dueFieldIndex(Sentences due, int promise, IndexCall call) {
        due.test(promise, NO_FIELD, () -> dueIndexes("field", CANAL, FIELD, 12, call));
        due.test(promise, "- `field`: index of a field", () -> dueIndexes("field", CANAL, FIELD, 12, call));
    }

    private static void dueIndexes(String name, String first, String next, int most, IndexCall call) {
        IrrigationTurns none = new IrrigationTurns();
        Check.dueIndex(name + " 0 of a new object", () -> call.make(none, 0));
        int more = next.equals(CHILD) ? 1 : 0;
        for (int count : new int[] {1, 2, most}) {
            IrrigationTurns x = Check.loaded(first + next.repeat(count - more));
            Check.dueIndexRange(name + " of " + count, count, index -> call.make(x, index));
        }
        IrrigationTurns y = Check.loaded(first + next.repeat(most - more));
        Check.due("load of a smaller text", Check.load(y, first + next), 2);
        Check.dueIndexRange(name + " after a smaller text", 1 + more, index -> call.make(y, index));
    }

    private static void dueCount(String call, String first, String next, int most) {
        boolean isCanal = next.equals(CHILD);
        IrrigationTurns none = new IrrigationTurns();
        Check.due(call + " of a new object", isCanal ? none.canalCount() : none.fieldCount(), 0);
        for (int count = isCanal ? 1 : 0; count <= most; count++) {
            IrrigationTurns x = Check.loaded(first + next.repeat(isCanal ? count - 1 : count));
            Check.due(call, isCanal ? x.canalCount() : x.fieldCount(), count);
        }
        IrrigationTurns y = Check.loaded(first + next.repeat(most - 1));
        int before = isCanal ? y.canalCount() : y.fieldCount();
        String tooMany = first + next.repeat(isCanal ? most : most + 1);
        Check.due("load of one too many", Check.load(y, tooMany), IrrigationTurns.TOO_MANY);
        Check.due(call + " after a text with too many", isCanal ? y.canalCount() : y.fieldCount(), before);
        Check.due("load of an empty text", y.load(0), 0);
        Check.due(call + " of an empty text", isCanal ? y.canalCount() : y.fieldCount(), 0);
    }

    private static void newObject() {
        IrrigationTurns x = new IrrigationTurns();
        Check.due("canalCount()", x.canalCount(), 0);
        Check.due("fieldCount()", x.fieldCount(), 0);
        Check.due("cycleLength()", x.cycleLength(), 0);
        Check.due("turnAt(0)", x.turnAt(0), -1);
        Check.due("guardAt()", x.guardAt(), -1);
        Check.due("inflow(0)", x.inflow(0), 100);
        Check.due("inflow(100000)", x.inflow(100000), 100);
        Check.due("clock()", x.clock(), 0);
        Check.due("undo()", x.undo(), -1);
        Check.dueIndex("parent(0)", () -> x.parent(0));
        Check.dueIndex("water(0)", () -> x.water(0));
        Check.dueIndex("swapTurns(0, 0)", () -> x.swapTurns(0, 0));
        Check.dueArgument("load(1)", () -> x.load(1));
        Check.due("load(0)", x.load(0), 0);
    }

    /** Puts a byte that no text may hold at each place of the 20. */
    private static void bytesOfArguments() {
        IrrigationTurns x = new IrrigationTurns();
        for (int sign : new int[] {0, 31, 33, 127, 128, 160, 255}) {
            for (int place = 0; place < 20; place++) {
                int[] words = {SPACES, SPACES, SPACES, SPACES, SPACES};
                int shift = 24 - 8 * (place % 4);
                words[place / 4] = words[place / 4] & ~(255 << shift) | sign << shift;
                Check.due("append", x.append(words[0], words[1], words[2], words[3], words[4]), 20);
                Check.due("load(20) with the byte " + sign, x.load(20), IrrigationTurns.SYNTAX_ERROR);
                Check.due("errorOffset() of the byte at " + place, x.errorOffset(), place);
            }
        }
        Check.due("append", x.append(SPACES, SPACES, SPACES, SPACES, 0x20202024), 20);
        Check.due("append", x.append(0x24202020, SPACES, SPACES, SPACES, SPACES), 40);
        Check.due("load(19), all before the wrong byte", x.load(19), 0);
        Check.dueArgument("load(1): an append is 20 bytes, no more", () -> x.load(1));
    }

    private static void fullBuffer() {
        IrrigationTurns x = new IrrigationTurns();
        for (int length = 20; length < 900; length += 20) {
            Check.due("append", x.append(SPACES, SPACES, SPACES, SPACES, SPACES), length);
        }
        Check.due("append up to 900 bytes", x.append(SPACES, SPACES, SPACES, 0x20207475, 0x726e3131), 900);
        Check.due("append beyond 900 bytes", x.append(0, 0, 0, 0, 0), -1);
        Check.due("append beyond 900 bytes once more", x.append(-1, -1, -1, -1, -1), -1);
        Check.dueArgument("load(901)", () -> x.load(901));
        Check.due("load(900)", x.load(900), IrrigationTurns.OUT_OF_RANGE);
        Check.due("errorOffset()", x.errorOffset(), 898);
        Check.due("append after the load", x.append(SPACES, SPACES, SPACES, SPACES, SPACES), 20);
    }

    /** "turn 3 1;turn 4 2;" and two spaces. */
    private static void appendTwoTurns(IrrigationTurns x) {
        Check.due("append", x.append(0x7475726e, 0x20332031, 0x3b747572, 0x6e203420, 0x323b2020), 20);
    }

    private static void firstBytes() {
        IrrigationTurns x = Check.loaded(CANAL + FIELD + "inflow 7;guard 0;");
        appendTwoTurns(x);
        Check.due("load(9)", x.load(9), 1);
        Check.due("cycleLength() of the first statement", x.cycleLength(), 1);
        Check.due("canalCount()", x.canalCount(), 0);
        Check.due("fieldCount()", x.fieldCount(), 0);
        Check.due("inflow(0)", x.inflow(0), 100);
        Check.due("guardAt()", x.guardAt(), -1);
        appendTwoTurns(x);
        Check.due("load(20)", x.load(20), 2);
        Check.due("cycleLength()", x.cycleLength(), 3);
        appendTwoTurns(x);
        Check.due("load(0)", x.load(0), 0);
        Check.due("cycleLength() of no statement", x.cycleLength(), 0);
    }

    private static void freshData() {
        String text = "canal 2 10 50;" + CHILD + "field 0 0 9 9 5 1;field 0 5 9 9 9 0;turn 5 9;guard 0 1;";
        IrrigationTurns x = Check.loaded(text);
        x.force(0);
        x.run(9);
        x.force(0);
        Check.isTrue("water(1) before the second load", x.water(1) > 0);
        Check.isTrue("fines(0) before the second load", x.fines(0) > 0);
        Check.due("the same text again", Check.load(x, text), 6);
        Check.due("clock()", x.clock(), 0);
        for (int canal = 0; canal < 2; canal++) {
            Check.due("arrived(" + canal + ")", x.arrived(canal), 0);
            for (int hours = 0; hours < 6; hours++) {
                Check.due("waterIn(" + canal + ", " + hours + ")", x.waterIn(canal, hours), 0);
            }
        }
        for (int field = 0; field < 2; field++) {
            Check.due("isForced(" + field + ")", x.isForced(field), false);
            Check.due("water(" + field + ")", x.water(field), 0);
            Check.due("taken(" + field + ")", x.taken(field), 0);
            Check.due("stolen(" + field + ")", x.stolen(field), 0);
        }
        for (int number = 0; number < 6; number++) {
            Check.due("fines(" + number + ")", x.fines(number), 0);
            Check.due("total(" + number + ")", x.total(number), 0);
        }
        Check.due("guardAt()", x.guardAt(), 0);
        Check.due("checksum()", x.checksum(), Check.loaded(text).checksum());
    }

    private static void emptyBuffer() {
        IrrigationTurns x = new IrrigationTurns();
        appendTwoTurns(x);
        Check.due("load(9) of 20", x.load(9), 1);
        Check.dueArgument("load(1): the unread bytes are gone too", () -> x.load(1));
        appendTwoTurns(x);
        Check.due("load(8), an error", x.load(8), IrrigationTurns.SYNTAX_ERROR);
        Check.dueArgument("load(1) after the error", () -> x.load(1));
        Check.due("load(0)", x.load(0), 0);
        appendTwoTurns(x);
        Check.due("load(0) of 20", x.load(0), 0);
        Check.dueArgument("load(1) after load(0)", () -> x.load(1));
        Check.due("append", x.append(SPACES, SPACES, SPACES, SPACES, SPACES), 20);
        Check.due("load(20): what was read before is not read again", x.load(20), 0);
    }

    private static void errorChangesNothing() {
        IrrigationTurns x = Check.loaded("canal 2 10 50;" + FIELD + "turn 0 3;turn 1 2;guard 0;inflow 77;");
        x.run(7);
        x.force(0);
        long before = x.checksum();
        String[] wrong = {"$", "canal 1 0 9;turn 6 1;", "turn 5 9;".repeat(13), "inflow (((((1", "guard 0",
            CANAL + CHILD + FIELD + FIELD + "turn 3 99;guard 1;inflow 5;x"};
        for (String text : wrong) {
            Check.isTrue("\"" + text + "\" has an error", Check.load(x, text) < 0);
            Check.due("checksum()", x.checksum(), before);
            Check.due("canalCount()", x.canalCount(), 1);
            Check.due("fieldCount()", x.fieldCount(), 1);
            Check.due("cycleLength()", x.cycleLength(), 5);
            Check.due("turnAt(4)", x.turnAt(4), 1);
            Check.due("inflow(0)", x.inflow(0), 77);
            Check.due("guardAt()", x.guardAt(), 0);
            Check.due("total(0)", x.total(0), 539);
            Check.due("arrived(0)", x.arrived(0), 45);
            Check.due("isForced(0)", x.isForced(0), true);
        }
        Check.due("undo(): the changes before are still there", x.undo(), 2);
    }

    private static void bytesToRead() {
        IrrigationTurns x = new IrrigationTurns();
        appendTwoTurns(x);
        Check.due("load(18), the whole text", x.load(18), 2);
        appendTwoTurns(x);
        Check.due("load(19), a space more", x.load(19), 2);
        appendTwoTurns(x);
        Check.due("load(20), all", x.load(20), 2);
        appendTwoTurns(x);
        Check.due("load(17), a byte less", x.load(17), IrrigationTurns.SYNTAX_ERROR);
        Check.due("errorOffset()", x.errorOffset(), 17);
        appendTwoTurns(x);
        Check.due("load(10), a byte more than a statement", x.load(10), IrrigationTurns.SYNTAX_ERROR);
        Check.due("errorOffset()", x.errorOffset(), 9);
        appendTwoTurns(x);
        Check.due("load(1)", x.load(1), IrrigationTurns.SYNTAX_ERROR);
        Check.due("errorOffset()", x.errorOffset(), 0);
        appendTwoTurns(x);
        Check.dueArgument("load(21)", () -> x.load(21));
    }

    private static void numberOfStatements() {
        Check.loads("", 0);
        Check.loads("turn 0 1;", 1);
        Check.loads("canal 1 0 9;" + CHILD.repeat(15) + "field 0 0 1 0 1 0;".repeat(12) + "turn 0 1;".repeat(12)
                + "guard 0;inflow 1;", 42);
        Check.refuses(IrrigationTurns.OUT_OF_RANGE, "turn ", "6 100;");
        Check.refuses(IrrigationTurns.OUT_OF_RANGE, "turn 0 1;turn ", "6 100;$");
    }

    private static void wrongLength() {
        IrrigationTurns x = new IrrigationTurns();
        Check.dueArgumentRange("load of an empty buffer", 0, 0, x::load);
        appendTwoTurns(x);
        for (int length : new int[] {-1, 21, Integer.MIN_VALUE, Integer.MAX_VALUE}) {
            Check.dueArgument("load(" + length + ")", () -> x.load(length));
        }
        Check.due("load(20): the buffer is unchanged", x.load(20), 2);
        appendTwoTurns(x);
        Check.dueArgument("load(-1)", () -> x.load(-1));
        Check.due("append after a load that threw", x.append(SPACES, SPACES, SPACES, SPACES, SPACES), 40);
        Check.dueArgument("load(41)", () -> x.load(41));
        Check.due("load(40)", x.load(40), 2);
    }

    private static void latestError() {
        IrrigationTurns x = new IrrigationTurns();
        Check.load(x, "$");
        Check.due("errorOffset() at the first byte", x.errorOffset(), 0);
        Check.load(x, "turn 6");
        Check.due("errorOffset() of the next load", x.errorOffset(), 5);
        Check.dueArgument("load(1)", () -> x.load(1));
        Check.due("errorOffset() after a load that threw", x.errorOffset(), 5);
        Check.load(x, " ".repeat(899) + "$");
        Check.due("errorOffset() at the last byte", x.errorOffset(), 899);
        Check.load(x, "turn" + " ".repeat(896));
        Check.due("errorOffset() behind the last byte", x.errorOffset(), 900);
    }

    private static void noError() {
        IrrigationTurns x = new IrrigationTurns();
        Check.due("errorOffset() of a new object", x.errorOffset(), -1);
        Check.dueArgument("load(1)", () -> x.load(1));
        Check.due("errorOffset() after a load that threw", x.errorOffset(), -1);
        Check.load(x, "turn 0 1;");
        Check.due("errorOffset() after a load without error", x.errorOffset(), -1);
        Check.load(x, "turn 6 1;");
        Check.due("errorOffset() after an error", x.errorOffset(), 5);
        Check.due("load(0)", x.load(0), 0);
        Check.due("errorOffset() after a load without error", x.errorOffset(), -1);
    }

    private static void clock() {
        IrrigationTurns x = Check.loaded(CANAL);
        Check.due("clock()", x.clock(), 0);
        x.run(1);
        Check.due("clock()", x.clock(), 1);
        x.run(100);
        Check.due("clock()", x.clock(), 101);
        Check.dueArgument("run(101)", () -> x.run(101));
        Check.due("clock()", x.clock(), 101);
        x.undo();
        Check.due("clock()", x.clock(), 1);
    }

    private static void passedHours() {
        IrrigationTurns x = Check.loaded(CANAL + FIELD);
        int passed = 0;
        for (int hours = 1; hours <= 100; hours++) {
            x.run(hours);
            passed += hours;
            Check.due("clock() after run(" + hours + ")", x.clock(), passed);
        }
        x.force(0);
        x.expected(0, 100);
        x.hoursUntil(0, 100);
        Check.due("clock() after calls in which no hour passes", x.clock(), 5050);
    }

    private static void clockAfterLoad() {
        IrrigationTurns x = Check.loaded(CANAL);
        x.run(7);
        Check.load(x, "canal 1 0");
        Check.due("clock() after a load with an error", x.clock(), 7);
        Check.load(x, CANAL);
        Check.due("clock() after a load", x.clock(), 0);
        x.undo();
        Check.due("clock() after undo()", x.clock(), 7);
    }

    /** The gate of the village that has the turn in the hour with the number of the clock is open. */
    private static void presentHour() {
        IrrigationTurns x = Check.loaded("canal 1 0 9999;field 0 3 1 0 1 0;field 0 5 1 0 1 0;turn 3 2;turn 5 3;");
        for (int hour = 0; hour < 12; hour++) {
            Check.due("clock()", x.clock(), hour);
            Check.due("isOpen(0) in hour " + hour, x.isOpen(0), hour % 5 < 2);
            Check.due("isOpen(1) in hour " + hour, x.isOpen(1), hour % 5 >= 2);
            Check.due("swapTurns(0, 0) in hour " + hour, x.swapTurns(0, 0), hour % 5 < 2 ? 3 : 5);
            x.run(1);
        }
        x.force(1);
        Check.due("isOpen(1) in hour 12", x.isOpen(1), true);
        x.run(3);
        Check.due("isOpen(1), forced, in hour 15", x.isOpen(1), true);
        Check.due("isOpen(0) in hour 15", x.isOpen(0), true);
    }

    private static void openNow() {
        IrrigationTurns x = Check.loaded(CANAL + "field 0 4 1 0 1 0;field 0 5 1 0 1 0;turn 4 1;turn 5 2;guard 0;");
        Check.due("isOpen(0) in hour 0", x.isOpen(0), true);
        Check.due("isOpen(1) in hour 0", x.isOpen(1), false);
        x.run(1);
        Check.due("isOpen(0) in hour 1: its turn is over", x.isOpen(0), false);
        Check.due("isOpen(1) in hour 1", x.isOpen(1), true);
        x.force(0);
        Check.due("isOpen(0) in hour 1 when it is forced", x.isOpen(0), true);
        x.run(1);
        Check.due("isOpen(0) in hour 2: the guard has closed it", x.isOpen(0), false);
        Check.due("isOpen(1) in hour 2", x.isOpen(1), true);
        x.run(1);
        Check.due("isOpen(0) in hour 3: its turn again", x.isOpen(0), true);
        x.undo();
        Check.due("isOpen(0) in hour 2 again", x.isOpen(0), false);
    }

    private static void cycle() {
        Check.due("cycleLength() of a new object", new IrrigationTurns().cycleLength(), 0);
        Check.due("cycleLength() without entries", Check.loaded(CANAL).cycleLength(), 0);
        Check.due("cycleLength() of one hour", Check.loaded("turn 0 1;").cycleLength(), 1);
        Check.due("cycleLength() of two entries", Check.loaded("turn 0 1;turn 0 99;").cycleLength(), 100);
        IrrigationTurns x = Check.loaded("turn 5 99;".repeat(12));
        Check.due("cycleLength() of twelve entries of 99 hours", x.cycleLength(), 1188);
        x.swapTurns(0, 11);
        Check.due("cycleLength() after swapTurns", x.cycleLength(), 1188);
        Check.load(x, "turn 0 1;".repeat(13));
        Check.due("cycleLength() after a text with an error", x.cycleLength(), 1188);
    }

    private static void turnOrNone() {
        Check.due("turnAt(0) of a new object", new IrrigationTurns().turnAt(0), -1);
        Check.due("turnAt(100000) without entries", Check.loaded(CANAL).turnAt(100000), -1);
        IrrigationTurns x = Check.loaded("turn 5 2;turn 0 1;");
        Check.due("turnAt(0)", x.turnAt(0), 5);
        Check.due("turnAt(1)", x.turnAt(1), 5);
        Check.due("turnAt(2)", x.turnAt(2), 0);
        Check.due("turnAt(3)", x.turnAt(3), 5);
    }

    private static void guardOrNone() {
        Check.due("guardAt() of a new object", new IrrigationTurns().guardAt(), -1);
        Check.due("guardAt() without a guard", Check.loaded(CANAL).guardAt(), -1);
        IrrigationTurns x = Check.loaded(CANAL + CHILD.repeat(15) + "guard 0 15;");
        Check.due("guardAt()", x.guardAt(), 0);
        x.run(1);
        Check.due("guardAt() after an hour", x.guardAt(), 15);
        Check.load(x, CANAL);
        Check.due("guardAt() after a load without a guard", x.guardAt(), -1);
        x.run(1);
        Check.due("guardAt() after an hour without a guard", x.guardAt(), -1);
        x.undo();
        x.undo();
        Check.due("guardAt() after undo()", x.guardAt(), 15);
    }

    private static void indexes() {
        IrrigationTurns x = Check.loaded("canal 6 0 9999;canal from 0 5 0 9;field 0 0 1 0 1 0;field 0 3 1 0 1 0;turn 3 9;");
        x.run(1);
        Check.due("waterIn(0, 5), the first canal", x.waterIn(0, 5), 100);
        Check.due("parent(1), the second canal", x.parent(1), 0);
        Check.due("isOpen(0), the first field", x.isOpen(0), false);
        Check.due("isOpen(1), the second field", x.isOpen(1), true);
        Check.dueIndexRange("parent", 2, x::parent);
        Check.dueIndexRange("isOpen", 2, x::isOpen);
        Check.dueIndexRange("isForced", 2, x::isForced);
    }

    private static void parents() {
        IrrigationTurns x = Check.loaded(CANAL + CHILD.repeat(14) + "canal from 14 1 0 9;");
        Check.due("parent(0)", x.parent(0), -1);
        Check.due("parent(1)", x.parent(1), 0);
        Check.due("parent(14)", x.parent(14), 0);
        Check.due("parent(15)", x.parent(15), 14);
    }

    private static void amountsAhead() {
        for (int delay = 1; delay <= 6; delay++) {
            IrrigationTurns x = Check.loaded("canal " + delay + " 0 9999;inflow hour+1;");
            for (int hour = 0; hour <= 15; hour++) {
                for (int hours = 0; hours <= 5; hours++) {
                    int entered = hour + hours - delay;
                    Check.due("waterIn(0, " + hours + ") at clock " + hour + " with a delay of " + delay, x.waterIn(0, hours),
                            entered >= 0 && hours < delay ? entered + 1 : 0);
                }
                x.run(1);
            }
        }
    }

    private static void yetToEnter() {
        IrrigationTurns x = Check.loaded(CANAL + "canal from 0 2 0 9999;field 1 0 1 0 9 0;turn 0 99;");
        Check.due("waterIn(0, 0) before the first inflow", x.waterIn(0, 0), 0);
        x.run(1);
        Check.due("waterIn(0, 0)", x.waterIn(0, 0), 100);
        Check.due("waterIn(0, 1): the inflow of this hour", x.waterIn(0, 1), 0);
        Check.due("waterIn(1, 1): what is still in canal 0", x.waterIn(1, 1), 0);
        Check.due("waterIn(1, 2)", x.waterIn(1, 2), 0);
        x.run(1);
        Check.due("waterIn(1, 1)", x.waterIn(1, 1), 100);
        Check.due("waterIn(1, 0)", x.waterIn(1, 0), 0);
    }

    private static void latestArrival() {
        IrrigationTurns x = Check.loaded("canal 1 0 9999;inflow hour+1;");
        Check.due("arrived(0) before the first hour", x.arrived(0), 0);
        x.run(1);
        Check.due("arrived(0) in hour 0", x.arrived(0), 0);
        x.run(1);
        Check.due("arrived(0) in hour 1", x.arrived(0), 1);
        x.run(9);
        Check.due("arrived(0) in hour 10, the latest alone", x.arrived(0), 10);
        Check.load(x, "canal 1 0");
        Check.due("arrived(0) after a load with an error", x.arrived(0), 10);
        Check.load(x, "canal 1 0 9999;canal from 0 1 0 9;");
        Check.due("arrived(0) after a load", x.arrived(0), 0);
        Check.due("arrived(1) after a load", x.arrived(1), 0);
        x.undo();
        Check.due("arrived(0) after undo() of the load", x.arrived(0), 10);
        x.undo();
        Check.due("arrived(0) after undo() of run(9)", x.arrived(0), 1);
    }

    private static void forcedGates() {
        IrrigationTurns x = Check.loaded(CANAL + "field 0 0 1 0 9 0;".repeat(12) + "turn 0 99;");
        for (int field = 0; field < 12; field++) {
            Check.due("isForced(" + field + ") of an open gate", x.isForced(field), false);
        }
        x.force(0);
        x.force(11);
        for (int field = 0; field < 12; field++) {
            Check.due("isForced(" + field + ")", x.isForced(field), field == 0 || field == 11);
        }
        x.undo();
        Check.due("isForced(11) after undo()", x.isForced(11), false);
    }

    private static void heldWater() {
        IrrigationTurns x = Check.loaded(CANAL + "field 0 0 20 0 55 1;turn 0 99;");
        int[] want = {0, 0, 19, 38, 55, 55};
        for (int hours = 0; hours < want.length; hours++) {
            Check.due("water(0) after " + hours + " hours", x.water(0), want[hours]);
            x.run(1);
        }
    }

    private static void takenWater() {
        IrrigationTurns x = Check.loaded(CANAL + "field 0 1 5 0 9999 0;field 0 0 20 0 1 1 over 0;turn 0 2;turn 1 1;");
        int[] lower = {0, 0, 0, 5, 5, 5, 10};
        int[] upper = {0, 0, 20, 20, 40, 60, 60};
        for (int hours = 0; hours < lower.length; hours++) {
            Check.due("taken(0) after " + hours + " hours: what ran over to it doesn't count", x.taken(0), lower[hours]);
            Check.due("taken(1) after " + hours + " hours: what left it counts", x.taken(1), upper[hours]);
            x.run(1);
        }
    }

    private static void stolenWater() {
        IrrigationTurns x = Check.loaded(CANAL + "field 0 0 10 0 9999 0;turn 0 2;turn 1 2;");
        x.force(0);
        int[] want = {0, 0, 0, 10, 20, 20, 20, 30};
        for (int hours = 0; hours < want.length; hours++) {
            Check.due("stolen(0) after " + hours + " hours", x.stolen(0), want[hours]);
            x.run(1);
        }
        Check.due("taken(0) after 8 hours", x.taken(0), 70);
        IrrigationTurns y = Check.loaded(CANAL + "field 0 0 10 0 9999 0;");
        y.force(0);
        y.run(2);
        Check.due("stolen(0) without a rotation", y.stolen(0), 10);
    }

    private static void fines() {
        IrrigationTurns x = Check.loaded(CANAL + "field 0 4 1 0 9 0;guard 0;");
        Check.due("fines(4)", x.fines(4), 0);
        for (int times = 1; times <= 9; times++) {
            x.force(0);
            Check.due("fines(4) before the guard comes", x.fines(4), times - 1);
            x.run(1);
            Check.due("fines(4) when the guard has come", x.fines(4), times);
        }
        x.undo();
        Check.due("fines(4) after undo()", x.fines(4), 8);
    }

    private static void totals() {
        IrrigationTurns x = Check.loaded("canal 1 10 90;field 0 0 20 0 30 5;turn 0 99;");
        long[][] want = {
            {0, 0, 0, 0, 0, 0},
            {100, 81, 0, 10, 9, 0},
            {200, 81, 15, 81, 18, 5},
            {300, 81, 30, 152, 27, 10},
            {400, 81, 30, 238, 36, 15},
        };
        for (int hours = 0; hours < want.length; hours++) {
            for (int what = 0; what <= 5; what++) {
                Check.due("total(" + what + ") after " + hours + " hours", x.total(what), want[hours][what]);
            }
            x.run(1);
        }
        Check.dueArgumentRange("total", 0, 5, x::total);
    }

    private static void sumOfTotals() {
        IrrigationTurns x = Check.loaded("canal 6 50 9999;canal from 0 1 7 9 share 0;canal from 0 3 1 33 share 2;"
                + "field 1 0 20 0 30 5;field 2 1 999 0 3 9 over 0;field 0 1 7 0 300 0 over 1;turn 0 3;turn 1 2;inflow 9999;");
        Check.dueBalance("before the first hour", x);
        for (int i = 0; i < 300; i++) {
            x.run(1);
            Check.dueBalance("after " + (i + 1) + " hours", x);
        }
        Check.due("total(0) after 300 hours of 9999", x.total(0), 2999700);
        IrrigationTurns parts = Check.loaded("canal 1 0 9999;canal from 0 2 3 9999 share 7;canal from 0 3 0 9999 share 99;"
                + "canal from 0 1 1 9999;field 1 0 3 0 9 1;field 2 0 3 0 9 1;field 3 0 3 0 9 1;turn 0 99;inflow hour*7;");
        for (int i = 0; i < 200; i++) {
            parts.run(1);
            Check.dueBalance("of three open children after " + (i + 1) + " hours", parts);
        }
    }
}

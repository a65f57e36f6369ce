/** Promises 1 and 2: a new object, and append. */
public final class BufferTest {
    private BufferTest() {
    }

    public static void main(String[] args) {
        newObject();
        bytesInTheirOrder();
        fullBuffer();
        tokensUpToTheLastByte();
        twoObjectsAreApart();
        Check.finish();
    }

    private static void newObject() {
        IrrigationTurns x = new IrrigationTurns();
        Check.due("new: canalCount()", x.canalCount(), 0);
        Check.due("new: fieldCount()", x.fieldCount(), 0);
        Check.due("new: clock()", x.clock(), 0);
        Check.due("new: cycleLength()", x.cycleLength(), 0);
        Check.due("new: turnAt(0)", x.turnAt(0), -1);
        Check.due("new: turnAt(100000)", x.turnAt(100000), -1);
        Check.due("new: inflow(0)", x.inflow(0), 100);
        Check.due("new: inflow(100000)", x.inflow(100000), 100);
        Check.due("new: guardAt()", x.guardAt(), -1);
        Check.due("new: errorOffset()", x.errorOffset(), -1);
        Check.due("new: fines(5)", x.fines(5), 0);
        for (int what = 0; what <= 5; what++) {
            Check.due("new: total(" + what + ")", x.total(what), 0);
        }
        Check.due("new: fairHours(0, 10)", x.fairHours(0, 10), 0);
        Check.due("new: undo()", x.undo(), -1);
        Check.due("new: checksum()", x.checksum(), -1);
        Check.dueIndex("new: parent(0)", () -> x.parent(0));
        Check.dueIndex("new: water(0)", () -> x.water(0));
        Check.dueIndex("new: swapTurns(0, 0)", () -> x.swapTurns(0, 0));
        Check.dueState("new: run(1)", () -> x.run(1));
        Check.dueArgument("new: load(1), the buffer is empty", () -> x.load(1));
        Check.due("new: load(0)", x.load(0), 0);
    }

    private static void bytesInTheirOrder() {
        IrrigationTurns x = new IrrigationTurns();
        Check.due("append of 'turn 3 12;' and spaces", x.append(0x7475726e, 0x20332031, 0x323b2020, 0x20202020,
                0x20202020), 20);
        Check.due("load(20)", x.load(20), 1);
        Check.due("turnAt(0)", x.turnAt(0), 3);
        Check.due("cycleLength()", x.cycleLength(), 12);
        x.append(0x7475726e, 0x20332031, 0x323b2020, 0x20202020, 0x202020ff);
        Check.due("load(20) with the byte 255 at its end", x.load(20), IrrigationTurns.SYNTAX_ERROR);
        Check.due("errorOffset()", x.errorOffset(), 19);
        x.append(0x80202020, 0, 0, 0, 0);
        Check.due("load(20) with the byte 128 at its beginning", x.load(20), IrrigationTurns.SYNTAX_ERROR);
        Check.due("errorOffset()", x.errorOffset(), 0);
        x.append(0x20202020, 0x00202020, 0, 0, 0);
        Check.due("load(20) with a byte 0", x.load(20), IrrigationTurns.SYNTAX_ERROR);
        Check.due("errorOffset()", x.errorOffset(), 4);
    }

    private static void fullBuffer() {
        IrrigationTurns x = new IrrigationTurns();
        int spaces = 0x20202020;
        for (int length = 20; length <= 880; length += 20) {
            Check.due("append", x.append(spaces, spaces, spaces, spaces, spaces), length);
        }
        Check.due("append of the last 20 bytes", x.append(spaces, spaces, spaces, spaces, 0x20202024), 900);
        Check.due("append beyond 900 bytes", x.append(0, 0, 0, 0, 0), -1);
        Check.due("append beyond 900 bytes again", x.append(0, 0, 0, 0, 0), -1);
        Check.dueArgument("load(901)", () -> x.load(901));
        Check.dueArgument("load(-1)", () -> x.load(-1));
        Check.due("load(900): the buffer is unchanged", x.load(900), IrrigationTurns.SYNTAX_ERROR);
        Check.due("errorOffset()", x.errorOffset(), 899);
        Check.due("append after the load", x.append(spaces, spaces, spaces, spaces, spaces), 20);
        Check.due("load(20)", x.load(20), 0);
        Check.due("errorOffset()", x.errorOffset(), -1);
    }

    private static void tokensUpToTheLastByte() {
        IrrigationTurns x = new IrrigationTurns();
        Check.due("load of 900 spaces", Check.load(x, " ".repeat(900)), 0);
        Check.due("load of 900 digits", Check.load(x, "1".repeat(900)), IrrigationTurns.SYNTAX_ERROR);
        Check.due("errorOffset()", x.errorOffset(), 0);
        Check.due("load of 900 letters", Check.load(x, "a".repeat(900)), IrrigationTurns.SYNTAX_ERROR);
        Check.due("load of 100 turns in 900 bytes", Check.load(x, "turn 1 1;".repeat(100)), IrrigationTurns.TOO_MANY);
        Check.due("load that ends in a number", Check.load(x, " ".repeat(893) + "turn 11"), IrrigationTurns.OUT_OF_RANGE);
        Check.due("errorOffset()", x.errorOffset(), 898);
        Check.due("load that ends in a word", Check.load(x, " ".repeat(894) + "inflow"), IrrigationTurns.SYNTAX_ERROR);
        Check.due("errorOffset()", x.errorOffset(), 900);
        Check.due("load of 891 spaces and a turn", Check.load(x, " ".repeat(891) + "turn 2 1;"), 1);
        Check.due("turnAt(0)", x.turnAt(0), 2);
    }

    private static void twoObjectsAreApart() {
        IrrigationTurns one = Check.loaded("canal 1 0 50;");
        IrrigationTurns other = Check.loaded("canal 2 0 50;canal from 0 1 0 9;");
        one.run(3);
        Check.due("clock() of the other object", other.clock(), 0);
        Check.due("canalCount() of the one object", one.canalCount(), 1);
        Check.due("canalCount() of the other object", other.canalCount(), 2);
    }
}

/** Promises 3 to 6, 8, 11 and 12 as far as a load alone shows them, and the errors of a text. */
public final class LoadTest {
    private static final int SYNTAX = IrrigationTurns.SYNTAX_ERROR;
    private static final int RANGE = IrrigationTurns.OUT_OF_RANGE;
    private static final int MANY = IrrigationTurns.TOO_MANY;
    private static final int DEEP = IrrigationTurns.TOO_DEEP;
    private static final String CANAL = "canal 1 0 9;";
    private static final String CHILD = "canal from 0 1 0 9;";
    private static final String FIELD = "field 0 0 1 0 1 0;";

    private LoadTest() {
    }

    public static void main(String[] args) {
        goodTexts();
        loadReplacesAll();
        failedLoadChangesNothing();
        lengthOfTheText();
        tokens();
        statements();
        rangesOfCanals();
        rangesOfFields();
        rangesOfTurnsAndGuard();
        tooMany();
        expressions();
        Check.finish();
    }

    private static void bad(String text, int code, int offset) {
        IrrigationTurns x = new IrrigationTurns();
        Check.due("load \"" + text + "\"", Check.load(x, text), code);
        Check.due("errorOffset() of \"" + text + "\"", x.errorOffset(), offset);
        Check.due("canalCount() after \"" + text + "\"", x.canalCount(), 0);
    }

    private static void goodTexts() {
        Check.loads("", 0);
        Check.loads("      ", 0);
        Check.loads(CANAL, 1);
        Check.loads("  canal  1  0  9  ;  ", 1);
        Check.loads("canal1 0 9;", 1);
        Check.loads("canal 1 0 9share0;", 1);
        Check.loads("canal 6 50 9999 share 99;", 1);
        Check.loads("canal 0001 00 000000000000009999;", 1);
        Check.loads(CANAL + "canal from0 1 0 9 share 7;canal from 1 6 50 9999;", 3);
        Check.loads(CANAL + "field 0 5 999 9999 9999 99;field 0 0 1 0 1 0 over 0;", 3);
        Check.loads("turn 5 99;turn 0 1;inflow 0;", 3);
        Check.loads(CANAL + "guard 0;", 2);
        Check.loads(CANAL + "guard 0 0 0 0 0 0 0 0 0 0;", 2);
        Check.loads("inflow ((((hour)))+day*(turn)-9999/1);", 1);
        IrrigationTurns x = Check.loaded(CANAL + CHILD + "canal from 1 2 3 4;canal from 0 1 1 1;" + FIELD + FIELD
                + "turn 4 7;turn 2 5;guard 2 0;");
        Check.due("canalCount()", x.canalCount(), 4);
        Check.due("fieldCount()", x.fieldCount(), 2);
        Check.due("cycleLength()", x.cycleLength(), 12);
        Check.due("guardAt()", x.guardAt(), 2);
        Check.due("parent(0)", x.parent(0), -1);
        Check.due("parent(1)", x.parent(1), 0);
        Check.due("parent(2)", x.parent(2), 1);
        Check.due("parent(3)", x.parent(3), 0);
        Check.dueIndex("parent(4)", () -> x.parent(4));
        Check.dueIndex("parent(-1)", () -> x.parent(-1));
        Check.dueIndex("parent(MIN)", () -> x.parent(Integer.MIN_VALUE));
    }

    private static void loadReplacesAll() {
        IrrigationTurns x = Check.loaded("canal 1 10 50;" + CHILD + FIELD + "field 0 0 9 8 7 6;turn 3 9;guard 1 0;"
                + "inflow 77;");
        x.force(1);
        x.run(7);
        x.force(0);
        Check.due("load of the second text", Check.load(x, "canal 3 0 9;" + FIELD), 2);
        Check.due("canalCount()", x.canalCount(), 1);
        Check.due("fieldCount()", x.fieldCount(), 1);
        Check.due("clock()", x.clock(), 0);
        Check.due("cycleLength()", x.cycleLength(), 0);
        Check.due("turnAt(0)", x.turnAt(0), -1);
        Check.due("inflow(0) is the default again", x.inflow(0), 100);
        Check.due("guardAt()", x.guardAt(), -1);
        Check.due("arrived(0)", x.arrived(0), 0);
        Check.due("waterIn(0, 0)", x.waterIn(0, 0), 0);
        Check.due("waterIn(0, 2)", x.waterIn(0, 2), 0);
        Check.due("water(0)", x.water(0), 0);
        Check.due("taken(0)", x.taken(0), 0);
        Check.due("stolen(0)", x.stolen(0), 0);
        Check.due("isForced(0)", x.isForced(0), false);
        for (int village = 0; village < 6; village++) {
            Check.due("fines(" + village + ")", x.fines(village), 0);
        }
        for (int what = 0; what <= 5; what++) {
            Check.due("total(" + what + ")", x.total(what), 0);
        }
        Check.due("load of an empty text", x.load(0), 0);
        Check.due("canalCount()", x.canalCount(), 0);
        Check.due("fieldCount()", x.fieldCount(), 0);
    }

    private static void failedLoadChangesNothing() {
        IrrigationTurns x = Check.loaded("canal 2 10 50;" + FIELD + "turn 3 9;guard 0;inflow 77;");
        x.run(5);
        x.force(0);
        long before = x.checksum();
        Check.due("a load that fails late", Check.load(x, CANAL + CHILD + "turn 1 1;inflow 5;field 1 0 0 0 0 0;"), RANGE);
        Check.due("errorOffset()", x.errorOffset(), 59);
        Check.due("checksum()", x.checksum(), before);
        Check.due("canalCount()", x.canalCount(), 1);
        Check.due("inflow(0)", x.inflow(0), 77);
        Check.due("cycleLength()", x.cycleLength(), 9);
        Check.due("total(0)", x.total(0), 385);
        Check.due("the buffer is empty", x.append(0, 0, 0, 0, 0), 20);
        Check.dueArgument("load(21)", () -> x.load(21));
        Check.dueArgument("load(-1)", () -> x.load(-1));
        Check.dueArgument("load(MIN)", () -> x.load(Integer.MIN_VALUE));
        Check.dueArgument("load(MAX)", () -> x.load(Integer.MAX_VALUE));
        Check.due("errorOffset() after loads that throw", x.errorOffset(), 59);
        Check.due("undo() of force: the failed loads are no changes", x.undo(), 2);
        Check.due("errorOffset() after undo()", x.errorOffset(), 59);
        Check.due("load(0) succeeds", x.load(0), 0);
        Check.due("errorOffset()", x.errorOffset(), -1);
    }

    private static void lengthOfTheText() {
        IrrigationTurns x = new IrrigationTurns();
        x.append(0x7475726e, 0x20332031, 0x3b747572, 0x6e203420, 0x323b2020);
        Check.due("load(9) of 'turn 3 1;turn 4 2;'", x.load(9), 1);
        Check.dueArgument("load(1): what was not read is gone too", () -> x.load(1));
        Check.due("cycleLength()", x.cycleLength(), 1);
        x.append(0x7475726e, 0x20332031, 0x3b747572, 0x6e203420, 0x323b2020);
        Check.due("load(17): the text ends at a number", x.load(17), SYNTAX);
        Check.due("errorOffset()", x.errorOffset(), 17);
        x.append(0x7475726e, 0x20332031, 0x3b747572, 0x6e203420, 0x323b2020);
        Check.due("load(11): the text ends in a word", x.load(11), SYNTAX);
        Check.due("errorOffset()", x.errorOffset(), 9);
    }

    private static void tokens() {
        bad("\n" + CANAL, SYNTAX, 0);
        bad("canal\t1 0 9;", SYNTAX, 5);
        bad("canal 1 0 9\u00e9;", SYNTAX, 11);
        bad("Canal 1 0 9;", SYNTAX, 0);
        bad("canals 1 0 9;", SYNTAX, 0);
        bad("cana 1 0 9;", SYNTAX, 0);
        bad("banal 1 0 9;", SYNTAX, 0);
        bad("can al 1 0 9;", SYNTAX, 0);
        bad("canal -1 0 9;", SYNTAX, 6);
        bad("canal 1 0 9 ", SYNTAX, 12);
        bad("canal 1 0 9    ", SYNTAX, 15);
        bad("canal 1 0", SYNTAX, 9);
        bad("canal", SYNTAX, 5);
        bad("   c", SYNTAX, 3);
        bad("canal 1 0 9sharez 1;", SYNTAX, 11);
        bad("canal 1 0 9 shares 1;", SYNTAX, 12);
        bad("canal 1,0,9;", SYNTAX, 7);
    }

    private static void statements() {
        bad(";", SYNTAX, 0);
        bad("7;", SYNTAX, 0);
        bad(CANAL + ";", SYNTAX, 12);
        bad("canal 1 0 9 9;", SYNTAX, 12);
        bad("canal 1 0 9 share;", SYNTAX, 17);
        bad("canal 1 0 9 share share;", SYNTAX, 18);
        bad("canal 1 0 9 over 0;", SYNTAX, 12);
        bad("canal from 0 1 0 9;", SYNTAX, 6);
        bad(CANAL + CANAL, SYNTAX, 18);
        bad(CANAL + "canal", SYNTAX, 17);
        bad(CANAL + "canal  ;", SYNTAX, 19);
        bad(CANAL + "canal from", SYNTAX, 22);
        bad(CANAL + "canal form 0 1 0 9;", SYNTAX, 18);
        bad(CANAL + "canal from from 0 1 0 9;", SYNTAX, 23);
        bad(CANAL + "field 0 0 1 0 1;", SYNTAX, 27);
        bad(CANAL + "field 0 0 1 0 1 0 0;", SYNTAX, 30);
        bad(CANAL + "field 0 0 1 0 1 0 under 0;", SYNTAX, 30);
        bad(CANAL + "field 0 0 1 0 1 0 over;", SYNTAX, 34);
        bad("turn 1;", SYNTAX, 6);
        bad("turn 1 1 1;", SYNTAX, 9);
        bad(CANAL + "guard;", SYNTAX, 17);
        bad(CANAL + "guard 0 x;", SYNTAX, 20);
        bad(CANAL + "guard 0;guard 0;", SYNTAX, 20);
        bad(CANAL + "guard 0;guard", SYNTAX, 20);
        bad("inflow 1;inflow 2;", SYNTAX, 9);
        bad("inflow 1;  inflow", SYNTAX, 11);
        bad("from 0 1 0 9;", SYNTAX, 0);
        bad("hour;", SYNTAX, 0);
    }

    private static void rangesOfCanals() {
        bad("canal 0 0 9;", RANGE, 6);
        bad("canal 7 0 9;", RANGE, 6);
        bad("canal 4294967297 0 9;", RANGE, 6);
        bad("canal 18446744073709551617 0 9;", RANGE, 6);
        bad("canal  1 51 9;", RANGE, 9);
        bad("canal 1 0 0;", RANGE, 10);
        bad("canal 1 0 10000;", RANGE, 10);
        bad("canal 1 0 9 share 100;", RANGE, 18);
        bad(CANAL + "canal from 1 1 0 9;", RANGE, 23);
        bad(CANAL + "canal from 99999999999999 1 0 9;", RANGE, 23);
        bad(CANAL + CHILD + "canal from 2 1 0 9;", RANGE, 42);
        bad("canal 0x 0 9;", RANGE, 6);
        bad("canal 1 51\n", RANGE, 8);
    }

    private static void rangesOfFields() {
        bad("field 0 0 1 0 1 0;", RANGE, 6);
        bad(CANAL + "field 1 0 1 0 1 0;", RANGE, 18);
        bad(CANAL + "field 0 6 1 0 1 0;", RANGE, 20);
        bad(CANAL + "field 0 0 0 0 1 0;", RANGE, 22);
        bad(CANAL + "field 0 0 1000 0 1 0;", RANGE, 22);
        bad(CANAL + "field 0 0 1 10000 1 0;", RANGE, 24);
        bad(CANAL + "field 0 0 1 0 0 0;", RANGE, 26);
        bad(CANAL + "field 0 0 1 0 10000 0;", RANGE, 26);
        bad(CANAL + "field 0 0 1 0 1 100;", RANGE, 28);
        bad(CANAL + "field 0 0 1 0 1 0 over 0;", RANGE, 35);
        bad(CANAL + FIELD + "field 0 0 1 0 1 0 over 1;", RANGE, 53);
        bad(FIELD + CANAL, RANGE, 6);
    }

    private static void rangesOfTurnsAndGuard() {
        bad("turn 6 1;", RANGE, 5);
        bad("turn 0 0;", RANGE, 7);
        bad("turn 0 100;", RANGE, 7);
        bad("guard 0;", RANGE, 6);
        bad(CANAL + "guard 1;", RANGE, 18);
        bad(CANAL + "guard 0 0 1;", RANGE, 22);
        bad("guard 0;" + CANAL, RANGE, 6);
        bad(CANAL + "guard 0 0 0 0 0 0 0 0 0 1;", RANGE, 36);
    }

    private static void tooMany() {
        Check.loads(CANAL + CHILD.repeat(15), 16);
        bad(CANAL + CHILD.repeat(15) + CHILD, MANY, 297);
        bad(CANAL + CHILD.repeat(15) + "  canal", MANY, 299);
        bad(CANAL + CHILD.repeat(15) + "canals", SYNTAX, 297);
        Check.loads(CANAL + FIELD.repeat(12), 13);
        bad(CANAL + FIELD.repeat(12) + FIELD, MANY, 228);
        bad(CANAL + FIELD.repeat(12) + "field ?", MANY, 228);
        Check.loads("turn 0 1;".repeat(12), 12);
        bad("turn 0 1;".repeat(12) + "turn", MANY, 108);
        bad(CANAL + "guard 0 0 0 0 0 0 0 0 0 0 0;", MANY, 38);
        bad(CANAL + "guard 0 0 0 0 0 0 0 0 0 0 0", MANY, 38);
        bad(CANAL + "guard 0 0 0 0 0 0 0 0 0 0 1;", RANGE, 38);
        bad(CANAL + "guard 0 0 0 0 0 0 0 0 0 0 x;", SYNTAX, 38);
        bad(CANAL + CHILD.repeat(15) + "guard 0 1 2 3 4 5 6 7 8 15 16;", RANGE, 324);
        bad(CANAL + CHILD.repeat(15) + "guard 0 1 2 3 4 5 6 7 8 15 15;", MANY, 324);
    }

    private static void expressions() {
        bad("inflow;", SYNTAX, 6);
        bad("inflow -1;", SYNTAX, 7);
        bad("inflow 1+;", SYNTAX, 9);
        bad("inflow 1+*2;", SYNTAX, 9);
        bad("inflow 1 2;", SYNTAX, 9);
        bad("inflow hours;", SYNTAX, 7);
        bad("inflow rain;", SYNTAX, 7);
        bad("inflow 1 hour;", SYNTAX, 9);
        bad("inflow ();", SYNTAX, 8);
        bad("inflow (1;", SYNTAX, 9);
        bad("inflow 1);", SYNTAX, 8);
        bad("inflow (1", SYNTAX, 9);
        bad("inflow 1", SYNTAX, 8);
        bad("inflow", SYNTAX, 6);
        bad("inflow 5(1);", SYNTAX, 8);
        bad("inflow 10000;", RANGE, 7);
        bad("inflow hour*99999999999999999999;", RANGE, 12);
        bad("inflow (((((1)))));", DEEP, 11);
        bad("inflow (((( (", DEEP, 12);
        bad("inflow ((((1)(;", SYNTAX, 13);
        bad("inflow ((((1+2*(3)))));", DEEP, 15);
        bad("inflow ((((1(", SYNTAX, 12);
        Check.loads("inflow ((((1))))*((((2))))+((((3))));", 1);
    }
}

/** The boundary cases of the setup text: its length, its grammar and tokens, and the ranges of its numbers (promise 3). */
final class TextBoundaries {
    private static final int SYNTAX = IrrigationTurns.SYNTAX_ERROR;
    private static final int RANGE = IrrigationTurns.OUT_OF_RANGE;
    private static final int MANY = IrrigationTurns.TOO_MANY;
    private static final int DEEP = IrrigationTurns.TOO_DEEP;
    private static final String CANAL = "canal 1 0 9;";
    private static final String CHILD = "canal from 0 1 0 9;";
    private static final String FIELD = "field 0 0 1 0 1 0;";
    private static final String TURN = "turn 0 1;";

    private TextBoundaries() {
    }

    static void test(Sentences due) {
        grammar(due);
        tokens(due);
        canals(due);
        fields(due);
        others(due);
    }

    private static void grammar(Sentences due) {
        due.test(3, "The setup text is read from an input buffer of at most 900 bytes.", TextBoundaries::wholeBuffer);
        due.test(3, "setup = { statement \";\" }", TextBoundaries::setup);
        due.test(3, "statement = \"canal\" [ \"from\" number ] number number number [ \"share\" number ]",
                TextBoundaries::canalStatement);
        due.test(3, "| \"field\" number number number number number number [ \"over\" number ]",
                TextBoundaries::fieldStatement);
        due.test(3, "| \"turn\" number number | \"guard\" number { number } | \"inflow\" sum",
                TextBoundaries::otherStatements);
        due.test(3, "sum = term { ( \"+\" | \"-\" ) term }", TextBoundaries::sum);
        due.test(3, "term = factor { ( \"*\" | \"/\" ) factor }", TextBoundaries::term);
        due.test(3, "factor = number | \"hour\" | \"day\" | \"turn\" | \"(\" sum \")\"", TextBoundaries::factor);
    }

    private static void tokens(Sentences due) {
        due.test(3, "A number is a run of decimal digits;", TextBoundaries::digits);
        due.test(3, "a word is a run of the letters a to z.", TextBoundaries::letters);
        due.test(3, "Each run is as long as possible.", TextBoundaries::longestRuns);
        due.test(3, "Spaces (byte 32) may precede any token and may follow the last one.", TextBoundaries::spaces);
        due.test(3, "No other byte separates tokens.", TextBoundaries::otherBytes);
    }

    private static void canals(Sentences due) {
        due.test(3, "There are at most 16 canals.", TextBoundaries::sixteenCanals);
        due.test(12, "each other canal has a parent, which is a canal with a smaller index;",
                TextBoundaries::parentIndex);
        due.test(3, "A canal has a delay (1 to 6 hours),", () -> {
            numbers("canal ", 1, 6, " 0 9;");
            numbers(CANAL + "canal from 0 ", 1, 6, " 0 9;");
        });
        due.test(3, "a loss (0 to 50 percent),", () -> numbers("canal 1 ", 0, 50, " 9;"));
        due.test(3, "a capacity (1 to 9999)", () -> numbers("canal 1 0 ", 1, 9999, ";"));
        due.test(3, "and a share (0 to 99).", () -> {
            numbers("canal 1 0 9 share ", 0, 99, ";");
            numbers(CANAL + "canal from 0 1 0 9 share ", 0, 99, ";");
        });
        due.test(3, "The numbers of a canal are the parent (after \"from\"), the delay, the loss and the capacity, and the "
                + "share (after \"share\"; 1 if it is missing).", TextBoundaries::missingShare);
        due.test(3, "The first canal has no \"from\";", TextBoundaries::firstCanal);
        due.test(3, "each other canal has one.", TextBoundaries::otherCanals);
    }

    private static void fields(Sentences due) {
        due.test(3, "There are at most 12 fields.", TextBoundaries::twelveFields);
        due.test(3, "The villages are 0 to 5.", () -> {
            numbers("turn ", 0, 5, " 1;");
            numbers(CANAL + "field 0 ", 0, 5, " 1 0 1 0;");
        });
        due.test(3, "It has an intake (1 to 999),", () -> numbers(CANAL + "field 0 0 ", 1, 999, " 0 1 0;"));
        due.test(3, "a demand (0 to 9999),", () -> numbers(CANAL + "field 0 0 1 ", 0, 9999, " 1 0;"));
        due.test(3, "a bank (1 to 9999)", () -> numbers(CANAL + "field 0 0 1 0 ", 1, 9999, " 0;"));
        due.test(3, "and a seepage (0 to 99),", () -> numbers(CANAL + "field 0 0 1 0 1 ", 0, 99, ";"));
        due.test(3, "The numbers of a field are the canal, the village, the intake, the demand, the bank and the seepage, and "
                + "the field over which it lies (after \"over\").", TextBoundaries::orderOfFieldNumbers);
        due.test(3, "It may lie over another field, which has a smaller index.", TextBoundaries::fieldBelow);
    }

    private static void others(Sentences due) {
        due.test(3, "The rotation is a list of at most 12 entries,", TextBoundaries::twelveEntries);
        due.test(3, "each with a village and a number of hours (1 to 99).", () -> numbers("turn 0 ", 1, 99, ";"));
        due.test(3, "The numbers of a turn are the village and the hours of the next entry of the rotation.",
                TextBoundaries::orderOfTurnNumbers);
        due.test(3, "The numbers of the guard are 1 to 10 canals: the route.", TextBoundaries::route);
        due.test(11, "The guard is at the first canal of the route at first.", TextBoundaries::firstOfRoute);
        due.test(3, "A number as a factor is 0 to 9999.", () -> {
            numbers("inflow ", 0, 9999, ";");
            numbers("inflow (hour*", 0, 9999, ");");
        });
        due.test(3, "Parentheses nest at most 4 deep.", TextBoundaries::parentheses);
        due.test(3, "A canal or field that is mentioned must have been declared earlier in the text.",
                TextBoundaries::declaredEarlier);
        due.test(3, "The statements guard and inflow may each occur once.", TextBoundaries::onceEach);
    }

    /** The least and the greatest number load, also behind zeros; those beyond are out of range at their first digit. */
    private static void numbers(String before, int least, int greatest, String after) {
        int statements = (int) (before + after).chars().filter(sign -> sign == ';').count();
        Check.loads(before + least + after, statements);
        Check.loads(before + greatest + after, statements);
        Check.loads(before + "0000000000" + least + after, statements);
        Check.loads(before + "0000000000" + greatest + after, statements);
        if (least > 0) {
            Check.refuses(RANGE, before, least - 1 + after);
        } else {
            Check.refuses(SYNTAX, before, "-1" + after);
        }
        Check.refuses(RANGE, before, greatest + 1 + after);
        Check.refuses(RANGE, before, "000" + (greatest + 1) + after);
        for (long wrap : new long[] {1L << 31, 1L << 32, (1L << 32) + least, (1L << 33) + greatest}) {
            Check.refuses(RANGE, before, wrap + after);
        }
        Check.refuses(RANGE, before, "18446744073709551617" + after);
    }

    private static void wholeBuffer() {
        IrrigationTurns x = new IrrigationTurns();
        Check.due("load of 900 bytes", Check.load(x, " ".repeat(891) + "turn 2 1;"), 1);
        Check.due("load of 900 bytes without the last sign", Check.load(x, " ".repeat(892) + "turn 2 1"), SYNTAX);
        Check.due("errorOffset()", x.errorOffset(), 900);
        for (int length = 20; length <= 900; length += 20) {
            Check.due("append", x.append(0x20202020, 0x20202020, 0x20202020, 0x20202020, 0x20202020), length);
        }
        Check.due("append of the bytes 901 to 920", x.append(0x20202020, 0x20202020, 0x20202020, 0x20202020, 0x20202020), -1);
        Check.dueArgument("load(901)", () -> x.load(901));
        Check.due("load(900)", x.load(900), 0);
    }

    private static void setup() {
        Check.loads("", 0);
        Check.loads(CANAL, 1);
        String longest = CANAL + CHILD.repeat(15) + FIELD.repeat(12) + TURN.repeat(12) + "guard 0;inflow 1;";
        Check.loads(longest, 42);
        Check.refuses(SYNTAX, longest, "x");
        Check.refuses(SYNTAX, "", ";");
        Check.refuses(SYNTAX, CANAL, ";");
        Check.refuses(SYNTAX, "canal 1 0 9", "");
        Check.refuses(SYNTAX, "turn 0 1 ", "turn 0 1;");
        Check.refuses(SYNTAX, "", "1;");
        Check.refuses(SYNTAX, "", "share 1;");
    }

    private static void canalStatement() {
        Check.loads("canal 1 0 9;", 1);
        Check.loads("canal 1 0 9 share 1;", 1);
        Check.loads(CANAL + "canal from 0 1 0 9;", 2);
        Check.loads(CANAL + "canal from 0 1 0 9 share 1;", 2);
        Check.refuses(SYNTAX, "canal 1 0", ";");
        Check.refuses(SYNTAX, "canal 1 0 9 ", "9;");
        Check.refuses(SYNTAX, "canal 1 0 ", "share 1;");
        Check.refuses(SYNTAX, "canal 1 0 9 share", ";");
        Check.refuses(SYNTAX, "canal 1 0 9 share 1 ", "1;");
        Check.refuses(SYNTAX, "canal 1 0 9 share 1 ", "share 1;");
        Check.refuses(SYNTAX, "canal 1 0 9 ", "from 0;");
        Check.refuses(SYNTAX, CANAL + "canal from 0 1 0", ";");
        Check.refuses(SYNTAX, CANAL + "canal from 0 1 0 9 ", "9;");
        Check.refuses(SYNTAX, CANAL + "canal from ", "from 0 1 0 9;");
    }

    private static void fieldStatement() {
        Check.loads(CANAL + "field 0 0 1 0 1 0;", 2);
        Check.loads(CANAL + FIELD + "field 0 0 1 0 1 0 over 0;", 3);
        Check.refuses(SYNTAX, CANAL + "field 0 0 1 0 1", ";");
        Check.refuses(SYNTAX, CANAL + "field 0 0 1 0 1 0 ", "0;");
        Check.refuses(SYNTAX, CANAL + FIELD + "field 0 0 1 0 1 ", "over 0;");
        Check.refuses(SYNTAX, CANAL + FIELD + "field 0 0 1 0 1 0 over", ";");
        Check.refuses(SYNTAX, CANAL + FIELD + "field 0 0 1 0 1 0 over 0 ", "0;");
        Check.refuses(SYNTAX, CANAL + FIELD + "field 0 0 1 0 1 0 over 0 ", "over 0;");
        Check.refuses(SYNTAX, CANAL + "field ", "from 0 0 1 0 1 0;");
    }

    private static void otherStatements() {
        Check.loads("turn 0 1;", 1);
        Check.refuses(SYNTAX, "turn", ";");
        Check.refuses(SYNTAX, "turn 0", ";");
        Check.refuses(SYNTAX, "turn 0 1 ", "1;");
        Check.loads(CANAL + "guard 0;", 2);
        Check.loads(CANAL + "guard 0 0;", 2);
        Check.refuses(SYNTAX, CANAL + "guard", ";");
        Check.refuses(SYNTAX, CANAL + "guard 0 ", "guard;");
        Check.loads("inflow 1;", 1);
        Check.refuses(SYNTAX, "inflow", ";");
        Check.refuses(SYNTAX, "inflow 1 ", "1;");
    }

    private static void sum() {
        Check.loads("inflow 1;", 1);
        Check.loads("inflow 1+1-1;", 1);
        Check.loads("inflow 1" + "+1".repeat(445) + "; ", 1);
        Check.refuses(SYNTAX, "inflow ", "+1;");
        Check.refuses(SYNTAX, "inflow ", "-1;");
        Check.refuses(SYNTAX, "inflow 1+", ";");
        Check.refuses(SYNTAX, "inflow 1-", "-1;");
        Check.refuses(SYNTAX, "inflow 1+", "+1;");
        Check.refuses(SYNTAX, "inflow 1" + "+1".repeat(445) + "-", ";");
    }

    private static void term() {
        Check.loads("inflow 1*1/1;", 1);
        Check.loads("inflow 1" + "*1".repeat(445) + "; ", 1);
        Check.refuses(SYNTAX, "inflow ", "*1;");
        Check.refuses(SYNTAX, "inflow ", "/1;");
        Check.refuses(SYNTAX, "inflow 1*", ";");
        Check.refuses(SYNTAX, "inflow 1/", "/1;");
        Check.refuses(SYNTAX, "inflow 1*", "+1;");
        Check.refuses(SYNTAX, "inflow 1+", "*1;");
        Check.refuses(SYNTAX, "inflow 1" + "*1".repeat(445) + "/", ";");
    }

    private static void factor() {
        for (String factor : new String[] {"0", "hour", "day", "turn", "(0)", "(hour)"}) {
            Check.loads("inflow " + factor + ";", 1);
            Check.refuses(SYNTAX, "inflow " + factor + " ", "hour;");
            Check.refuses(SYNTAX, "inflow " + factor, "(0);");
        }
        for (String other : new String[] {"hours;", "hou;", "days;", "turns;", "canal;", "inflow;", ");", ";", ""}) {
            Check.refuses(SYNTAX, "inflow ", other);
        }
        Check.refuses(SYNTAX, "inflow (", ");");
        Check.refuses(SYNTAX, "inflow (0", ";");
        Check.refuses(SYNTAX, "inflow (0", "");
        Check.refuses(SYNTAX, "inflow (0)", ");");
    }

    private static void digits() {
        Check.loads("turn 0 9;", 1);
        Check.loads("turn 0 90;", 1);
        Check.refuses(SYNTAX, "turn 0 9", "/;");
        Check.refuses(SYNTAX, "turn 0 9", ":;");
        Check.refuses(SYNTAX, "turn ", "/ 9;");
        Check.refuses(SYNTAX, "turn ", ": 9;");
        Check.refuses(SYNTAX, "turn 0 ", "\u00b9;");
        Check.loads("inflow " + "0".repeat(888) + "9999;", 1);
        Check.refuses(RANGE, "inflow ", "0".repeat(887) + "10000;");
    }

    private static void letters() {
        Check.refuses(SYNTAX, "", "turna 0 1;");
        Check.refuses(SYNTAX, "", "turnz 0 1;");
        Check.refuses(SYNTAX, "", "aturn 0 1;");
        Check.refuses(SYNTAX, "turn", "` 0 1;");
        Check.refuses(SYNTAX, "turn", "{ 0 1;");
        Check.refuses(SYNTAX, "turn", "A 0 1;");
        Check.refuses(SYNTAX, "turn", "Z 0 1;");
        Check.refuses(SYNTAX, "turn", "_0 1;");
        Check.refuses(SYNTAX, "", "TURN 0 1;");
        Check.refuses(SYNTAX, "", "turN 0 1;");
        Check.refuses(SYNTAX, "turn", "\u00e4 0 1;");
    }

    private static void longestRuns() {
        Check.loads("turn0 1;", 1);
        Check.loads("canal 1 0 9share0;", 1);
        Check.loads(CANAL + "canal from0 1 0 9;", 2);
        Check.refuses(SYNTAX, CANAL + "field 0 0 12 0 1", ";");
        Check.refuses(SYNTAX, "turn 0", ";1;");
        Check.refuses(RANGE, "turn 0 ", "991;");
        Check.refuses(RANGE, "turn", "12;");
        Check.refuses(RANGE, "inflow ", "99991;");
        Check.refuses(SYNTAX, "", "turnturn 0 1;");
        Check.refuses(SYNTAX, CANAL + "canal ", "fromfrom 0 1 0 9;");
        Check.refuses(SYNTAX, "inflow ", "hourday;");
    }

    private static void spaces() {
        Check.loads("turn 0 1;inflow(hour+1);", 2);
        Check.loads("  turn  0  1  ;  inflow  (  hour  +  1  )  ;  ", 2);
        Check.loads(" ".repeat(900), 0);
        Check.loads("turn 0 1;" + " ".repeat(891), 1);
        Check.loads("turn" + " ".repeat(892) + "0 1;", 1);
        Check.refuses(SYNTAX, "", "tu rn 0 1;");
        Check.refuses(SYNTAX, "turn 0 9 ", "9;");
    }

    private static void otherBytes() {
        for (int value = 0; value < 256; value++) {
            String sign = "" + (char) value;
            if (value == 32) {
                Check.loads("turn 1" + sign + " 1;", 1);
                Check.loads(sign + "turn 1 1;" + sign, 1);
            } else if (value >= '0' && value <= '9') {
                Check.refuses(RANGE, "turn ", 1 + sign + " 1;");
            } else {
                Check.refuses(SYNTAX, "turn 1", sign + " 1;");
                Check.refuses(SYNTAX, "turn 1 1;", sign);
            }
        }
    }

    private static void sixteenCanals() {
        Check.loads(CANAL + CHILD.repeat(15), 16);
        Check.due("canalCount()", Check.loaded(CANAL + CHILD.repeat(15)).canalCount(), 16);
        Check.refuses(MANY, CANAL + CHILD.repeat(15), CHILD);
    }

    private static void parentIndex() {
        StringBuilder text = new StringBuilder(CANAL);
        for (int canal = 1; canal < 16; canal++) {
            Check.refuses(RANGE, text + "canal from ", canal + " 1 0 9;");
            text.append("canal from ").append(canal - 1).append(" 1 0 9;");
            Check.due("parent(" + canal + ")", Check.loaded(text.toString()).parent(canal), canal - 1);
        }
        Check.due("parent(15) of a child of canal 0", Check.loaded(CANAL + CHILD.repeat(15)).parent(15), 0);
    }

    private static void missingShare() {
        String children = "canal 1 0 9999;canal from 0 6 0 9999;canal from 0 6 0 9999 share ";
        String gates = ";field 1 0 1 0 1 0;field 2 0 1 0 1 0;turn 0 99;inflow 300;";
        int[] firstPart = {300, 150, 100};
        for (int share = 0; share <= 2; share++) {
            IrrigationTurns x = Check.loaded(children + share + gates);
            x.run(2);
            Check.due("waterIn(1, 5) beside the share " + share, x.waterIn(1, 5), firstPart[share]);
        }
    }

    private static void firstCanal() {
        Check.loads("canal 1 0 9;", 1);
        Check.refuses(SYNTAX, "canal ", "from 0 1 0 9;");
        Check.refuses(SYNTAX, TURN + "canal ", "from 0 1 0 9;");
        Check.refuses(SYNTAX, "canal ", "from");
    }

    private static void otherCanals() {
        Check.loads(CANAL + CHILD + CHILD, 3);
        Check.refuses(SYNTAX, CANAL + "canal ", "1 0 9;");
        Check.refuses(SYNTAX, CANAL + CHILD + "canal ", "0 1 0 9;");
        Check.refuses(SYNTAX, CANAL + CHILD.repeat(14) + "canal ", "1 0 9;");
    }

    private static void twelveFields() {
        Check.loads(CANAL + FIELD.repeat(12), 13);
        Check.due("fieldCount()", Check.loaded(CANAL + FIELD.repeat(12)).fieldCount(), 12);
        Check.refuses(MANY, CANAL + FIELD.repeat(12), FIELD);
    }

    private static void orderOfFieldNumbers() {
        IrrigationTurns x = Check.loaded("canal 1 0 9999;canal from 0 1 0 9999;field 0 5 1 0 9 0;"
                + "field 1 3 20 9 9 8 over 0;turn 3 99;");
        x.run(3);
        Check.due("isOpen(1), of village 3", x.isOpen(1), true);
        Check.due("taken(1), its intake", x.taken(1), 20);
        Check.due("hoursUntil(1, 0), its demand", x.hoursUntil(1, 0), 0);
        Check.due("water(1), its bank", x.water(1), 9);
        Check.due("total(5), its seepage", x.total(5), 8);
        Check.due("water(0), over which it lies", x.water(0), 3);
    }

    private static void orderOfTurnNumbers() {
        IrrigationTurns x = Check.loaded("turn 3 1;turn 5 2;");
        Check.due("turnAt(0)", x.turnAt(0), 3);
        Check.due("turnAt(1)", x.turnAt(1), 5);
        Check.due("turnAt(2)", x.turnAt(2), 5);
        Check.due("turnAt(3)", x.turnAt(3), 3);
    }

    private static void fieldBelow() {
        StringBuilder text = new StringBuilder(CANAL);
        for (int field = 0; field < 12; field++) {
            Check.refuses(RANGE, text + "field 0 0 1 0 1 0 over ", field + ";");
            Check.loads(text + "field 0 0 1 0 1 0" + (field > 0 ? " over " + (field - 1) : "") + ";", field + 2);
            Check.loads(text + "field 0 0 1 0 1 0" + (field > 0 ? " over 0" : "") + ";", field + 2);
            text.append(FIELD);
        }
    }

    private static void twelveEntries() {
        Check.loads(TURN.repeat(12), 12);
        Check.due("cycleLength()", Check.loaded(TURN.repeat(12)).cycleLength(), 12);
        Check.refuses(MANY, TURN.repeat(12), TURN);
    }

    private static void route() {
        Check.refuses(SYNTAX, CANAL + "guard", ";");
        Check.loads(CANAL + "guard 0;", 2);
        Check.loads(CANAL + "guard" + " 0".repeat(10) + ";", 2);
        Check.refuses(MANY, CANAL + "guard" + " 0".repeat(10) + " ", "0;");
        String all = CANAL + CHILD.repeat(15);
        Check.loads(all + "guard 15 14 13 12 11 10 9 8 7 6;", 17);
        Check.refuses(RANGE, all + "guard 15 14 13 12 11 10 9 8 7 ", "16;");
    }

    private static void firstOfRoute() {
        String all = CANAL + CHILD.repeat(15);
        Check.due("guardAt() of a route of one", Check.loaded(all + "guard 15;").guardAt(), 15);
        Check.due("guardAt() of a route of ten", Check.loaded(all + "guard 3 1 1 1 1 1 1 1 1 2;").guardAt(), 3);
        Check.due("guardAt() of a route that begins at canal 0", Check.loaded(all + "guard 0 15;").guardAt(), 0);
        IrrigationTurns x = Check.loaded(all + "guard 3 1 2;");
        x.run(2);
        Check.due("guardAt() after 2 hours", x.guardAt(), 2);
        Check.due("a second load", Check.load(x, all + "guard 4 5 6;"), 17);
        Check.due("guardAt() after the second load", x.guardAt(), 4);
    }

    private static void parentheses() {
        Check.loads("inflow ((((1))));", 1);
        Check.refuses(DEEP, "inflow ((((", "(1)))));");
        Check.loads("inflow ((((1))))+((((1))))*((((1))));", 1);
        Check.refuses(DEEP, "inflow ((((1))))+((((", "(1)))));");
        Check.loads("inflow (((1+(2*3))));", 1);
        Check.refuses(DEEP, "inflow ((((1+", "(2*3)))));");
        Check.due("inflow(0) of four nested ones", Check.loaded("inflow 2*(2*(2*(2*(1+1))));").inflow(0), 32);
    }

    private static void declaredEarlier() {
        Check.refuses(RANGE, CANAL + "canal from ", "1 1 0 9;");
        Check.refuses(RANGE, CANAL + "field ", "1 0 1 0 1 0;" + CHILD);
        Check.loads(CANAL + CHILD + "field 1 0 1 0 1 0;", 3);
        Check.refuses(RANGE, "field ", "0 0 1 0 1 0;" + CANAL);
        Check.refuses(RANGE, CANAL + "field 0 0 1 0 1 0 over ", "0;" + FIELD);
        Check.refuses(RANGE, CANAL + FIELD + "field 0 0 1 0 1 0 over ", "1;");
        Check.loads(CANAL + FIELD + "field 0 0 1 0 1 0 over 0;", 3);
        Check.refuses(RANGE, CANAL + "guard 0 ", "1;" + CHILD);
        Check.loads(CANAL + CHILD + "guard 0 1;", 3);
        Check.refuses(RANGE, "guard ", "0;" + CANAL);
    }

    private static void onceEach() {
        Check.loads(CANAL + "guard 0;inflow 1;", 3);
        Check.loads("inflow 1;" + CANAL + "guard 0;", 3);
        Check.refuses(SYNTAX, CANAL + "guard 0;", "guard 0;");
        Check.refuses(SYNTAX, CANAL + "inflow 1;guard 0;", "inflow 1;");
        Check.refuses(SYNTAX, CANAL + "guard 0;inflow 1;" + TURN, "guard 0;");
        IrrigationTurns x = Check.loaded(CANAL + "guard 0;inflow 1;");
        Check.due("both once more in the next text", Check.load(x, CANAL + "guard 0;inflow 1;"), 3);
    }
}

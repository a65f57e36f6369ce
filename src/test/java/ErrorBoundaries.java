/** The errors of a setup text: which is the first, and at which offset it stands (promises 3 and 4). */
final class ErrorBoundaries {
    private static final int SYNTAX = IrrigationTurns.SYNTAX_ERROR;
    private static final int RANGE = IrrigationTurns.OUT_OF_RANGE;
    private static final int MANY = IrrigationTurns.TOO_MANY;
    private static final int DEEP = IrrigationTurns.TOO_DEEP;
    private static final String CANAL = "canal 1 0 9;";
    private static final String CHILD = "canal from 0 1 0 9;";
    private static final String FIELD = "field 0 0 1 0 1 0;";
    private static final String TURN = "turn 0 1;";
    private static final String SIXTEEN = CANAL + CHILD.repeat(15);
    private static final String TEN_STOPS = "guard 0 0 0 0 0 0 0 0 0 0 ";

    private ErrorBoundaries() {
    }

    static void test(Sentences due) {
        due.test(3, "The first error in the text is the one with the smallest offset.", ErrorBoundaries::smallestOffset);
        due.test(3, "If several kinds of error have the same offset, the first one in this list counts:",
                ErrorBoundaries::sameOffset);
        due.test(4, "- SYNTAX_ERROR: a token or byte that the grammar does not allow here, at its first byte;",
                ErrorBoundaries::tokenNotAllowed);
        due.test(4, "the end of the text, at its length, if the text ends too early;", ErrorBoundaries::endTooEarly);
        due.test(4, "a second guard or inflow, at its first letter;", ErrorBoundaries::secondStatement);
        due.test(4, "the word \"from\" in the first canal, at its first letter;", ErrorBoundaries::fromInFirstCanal);
        due.test(4, "the token in place of \"from\" in another canal, at its first byte.",
                ErrorBoundaries::inPlaceOfFrom);
        due.test(4, "- OUT_OF_RANGE: a number outside its range, at its first digit;", ErrorBoundaries::outsideRange);
        due.test(4, "an index of a canal or field that was not declared earlier, at its first digit.",
                ErrorBoundaries::notDeclared);
        due.test(4, "- TOO_MANY: a canal, field or turn beyond the maximum number, at the first letter of its statement;",
                ErrorBoundaries::beyondMaximum);
        due.test(4, "an 11th number of the guard, at its first digit.", ErrorBoundaries::eleventhStop);
        due.test(4, "- TOO_DEEP: an opening parenthesis inside 4 others, at that parenthesis.",
                ErrorBoundaries::fifthParenthesis);
        due.test(3, "- `SYNTAX_ERROR = -2`: Error code of load: the text does not follow the grammar.",
                () -> Check.due("load of a wrong text", Check.load(new IrrigationTurns(), "x"), -2));
        due.test(3, "- `OUT_OF_RANGE = -3`: Error code of load: a number is not allowed.",
                () -> Check.due("load of a wrong number", Check.load(new IrrigationTurns(), "turn 6"), -3));
        due.test(3, "- `TOO_MANY = -4`: Error code of load: too many declarations or numbers.",
                () -> Check.due("load of 13 turns", Check.load(new IrrigationTurns(), TURN.repeat(13)), -4));
        due.test(3, "- `TOO_DEEP = -5`: Error code of load: parentheses are nested too deeply.",
                () -> Check.due("load of 5 parentheses", Check.load(new IrrigationTurns(), "inflow ((((("), -5));
    }

    private static void smallestOffset() {
        Check.refuses(DEEP, "inflow ((((", "($");
        Check.refuses(DEEP, "inflow ((((", "(10000)))));turn 6 1;");
        Check.refuses(MANY, TURN.repeat(12), "turn 6 1;");
        Check.refuses(MANY, TURN.repeat(12), "turn $");
        Check.refuses(MANY, CANAL + TEN_STOPS, "0 1;");
        Check.refuses(RANGE, "turn ", "6 $");
        Check.refuses(RANGE, "turn ", "6 100;" + TURN.repeat(13));
        Check.refuses(RANGE, "inflow ", "10000+(((((1;");
        Check.refuses(SYNTAX, "turn ", "$ 6 100;");
        Check.refuses(SYNTAX, "inflow ((((1", "$(");
    }

    private static void sameOffset() {
        Check.refuses(SYNTAX, "turn 5 99 ", "100;");
        Check.refuses(SYNTAX, CANAL + "canal ", "99 1 0 9;");
        Check.refuses(SYNTAX, "inflow 1 ", "10000;");
        Check.refuses(SYNTAX, CANAL + CHILD.repeat(14) + "canal from 0 1 0 9 ", "canal from 0 1 0 9;");
        Check.refuses(SYNTAX, SIXTEEN.substring(0, SIXTEEN.length() - 1) + " ", CHILD);
        Check.refuses(SYNTAX, TURN.repeat(11) + "turn 0 1 ", "turn 0 1;");
        Check.refuses(SYNTAX, "inflow ((((1", "(1)))));");
        Check.refuses(SYNTAX, "inflow ((((hour ", "(1)))));");
        Check.refuses(RANGE, CANAL + TEN_STOPS, "1;");
        Check.refuses(MANY, CANAL + TEN_STOPS, "0;");
        Check.refuses(RANGE, SIXTEEN + TEN_STOPS, "16;");
        Check.refuses(MANY, SIXTEEN + TEN_STOPS, "15;");
    }

    private static void tokenNotAllowed() {
        Check.refuses(SYNTAX, "", "$");
        Check.refuses(SYNTAX, "   ", "canals 1 0 9;");
        Check.refuses(SYNTAX, "canal 1 0 9 ", "shares 1;");
        Check.refuses(SYNTAX, "canal 1 0 9 ", "12345;");
        Check.refuses(SYNTAX, "canal 1 0   ", "nine;");
        Check.refuses(SYNTAX, "canal 1 0 9", "\u00ff;");
        Check.refuses(SYNTAX, "canal 1 0 9", "\u0000;");
        Check.refuses(SYNTAX, CANAL + " ".repeat(887), "$");
    }

    private static void endTooEarly() {
        String[] pieces = {"canal", " 1", " 0", " 9", " share", " 2", ";field", " 0", " 0", " 1", " 0", " 1", " 0", ";field",
            " 0", " 0", " 1", " 0", " 1", " 0", " over", " 0", ";turn", " 0", " 1", ";guard", " 0", " 0", ";inflow", " (", "1",
            "+", "hour", ")", "*", "day", ";canal", " from", " 0", " 1", " 0", " 9"};
        StringBuilder text = new StringBuilder();
        for (String piece : pieces) {
            text.append(piece);
            Check.refuses(SYNTAX, text.toString(), "");
            Check.refuses(SYNTAX, text + "   ", "");
        }
        Check.loads(text + ";", 7);
        Check.loads(text + ";   ", 7);
        Check.refuses(SYNTAX, " ".repeat(892) + "turn 0 1", "");
        IrrigationTurns x = new IrrigationTurns();
        x.append(0x7475726e, 0x20302031, 0x3b202020, 0x20202020, 0x20202020);
        Check.due("load(8) of \"turn 0 1;\"", x.load(8), SYNTAX);
        Check.due("errorOffset()", x.errorOffset(), 8);
    }

    private static void secondStatement() {
        Check.loads(CANAL + "guard 0;inflow 1;", 3);
        Check.refuses(SYNTAX, CANAL + "guard 0;", "guard 0;");
        Check.refuses(SYNTAX, CANAL + "guard 0;  ", "guard");
        Check.refuses(SYNTAX, CANAL + "guard 0;", "guard 1;");
        Check.refuses(SYNTAX, "inflow 1;", "inflow 1;");
        Check.refuses(SYNTAX, "inflow 1;  ", "inflow");
        Check.refuses(SYNTAX, "inflow 1;", "inflow 10000;");
        Check.refuses(SYNTAX, CANAL + "guard 0;inflow 1;" + TURN + " ", "guard 0;inflow 1;");
    }

    private static void fromInFirstCanal() {
        Check.loads("canal 1 0 9;", 1);
        Check.refuses(SYNTAX, "canal ", "from 0 1 0 9;");
        Check.refuses(SYNTAX, "canal   ", "from");
        Check.refuses(SYNTAX, "canal ", "from 99");
        Check.loads(CANAL + "canal from 0 1 0 9;", 2);
    }

    private static void inPlaceOfFrom() {
        Check.loads(CANAL + "canal from 0 1 0 9;", 2);
        String[] others = {"1 0 9;", "0;", "99999;", "share 1;", "fro 0 1 0 9;", "froms 0 1 0 9;", ";", "$", ""};
        for (String other : others) {
            Check.refuses(SYNTAX, CANAL + "canal  ", other);
        }
        Check.refuses(SYNTAX, CANAL + "canal", "");
    }

    private static void outsideRange() {
        Check.loads("canal 6 50 9999 share 99;", 1);
        Check.refuses(RANGE, "canal ", "7 50 9999 share 99;");
        Check.refuses(RANGE, "canal 6   ", "51 9999 share 99;");
        Check.refuses(RANGE, "canal 6 50 ", "10000 share 99;");
        Check.refuses(RANGE, "canal 6 50 9999 share", "100;");
        Check.refuses(RANGE, "canal ", "0");
        Check.refuses(RANGE, "canal ", "0000");
        Check.refuses(RANGE, "canal 1 0 ", "0;");
        Check.refuses(RANGE, "canal ", "7" + "0".repeat(893));
    }

    private static void notDeclared() {
        Check.loads(CANAL + "canal from 0 1 0 9;", 2);
        Check.refuses(RANGE, CANAL + "canal from ", "1 1 0 9;");
        Check.refuses(RANGE, CANAL + "canal from  ", "0010 1 0 9;");
        Check.refuses(RANGE, CANAL + "field ", "1 0 1 0 1 0;");
        Check.refuses(RANGE, "field ", "0");
        Check.refuses(RANGE, CANAL + "guard ", "1;");
        Check.refuses(RANGE, CANAL + "guard 0 0 ", "1 0;");
        Check.refuses(RANGE, CANAL + FIELD + "field 0 0 1 0 1 0 over ", "1;");
        Check.refuses(RANGE, CANAL + "field 0 0 1 0 1 0 over ", "0;");
        Check.loads(CANAL + FIELD + "field 0 0 1 0 1 0 over 0;", 3);
    }

    private static void beyondMaximum() {
        Check.loads(SIXTEEN, 16);
        Check.refuses(MANY, SIXTEEN, CHILD);
        Check.refuses(MANY, SIXTEEN + "  ", "canal");
        Check.refuses(MANY, SIXTEEN, "canal 1 0 9;");
        Check.loads(CANAL + FIELD.repeat(12), 13);
        Check.refuses(MANY, CANAL + FIELD.repeat(12), FIELD);
        Check.refuses(MANY, CANAL + FIELD.repeat(12) + " ", "field $");
        Check.loads(TURN.repeat(12), 12);
        Check.refuses(MANY, TURN.repeat(12), TURN);
        Check.refuses(MANY, TURN.repeat(12) + " ", "turn 6 100;");
        Check.refuses(SYNTAX, TURN.repeat(12), "turns 0 1;");
    }

    private static void eleventhStop() {
        Check.loads(CANAL + TEN_STOPS + ";", 2);
        Check.refuses(MANY, CANAL + TEN_STOPS, "0;");
        Check.refuses(MANY, CANAL + TEN_STOPS + "  ", "0000 0 0;");
        Check.refuses(MANY, CANAL + TEN_STOPS, "0");
        Check.refuses(SYNTAX, CANAL + TEN_STOPS, "x;");
        Check.refuses(SYNTAX, CANAL + TEN_STOPS, "");
    }

    private static void fifthParenthesis() {
        Check.loads("inflow ((((0))));", 1);
        Check.refuses(DEEP, "inflow ((((", "(0)))));");
        Check.refuses(DEEP, "inflow (  ( ((0))*((  ", "(1)))));");
        Check.refuses(DEEP, "inflow ((((", "((((((");
        Check.refuses(SYNTAX, "inflow ((((", ")");
        Check.refuses(SYNTAX, "inflow ((((", "");
    }
}

import java.nio.charset.StandardCharsets;

/** What the tests share: counting wrong answers, and bringing texts into an object. */
final class Check {
    private static int wrong = 0;

    private Check() {
    }

    interface Call {
        void make();
    }

    interface NumberCall {
        void make(int number);
    }

    static int wrongSoFar() {
        return wrong;
    }

    static void due(String call, long got, long want) {
        if (got != want) {
            wrong++;
            System.out.println(call + " answered " + got + ", due is " + want);
        }
    }

    static void due(String call, boolean got, boolean want) {
        due(call, got ? 1 : 0, want ? 1 : 0);
    }

    static void isTrue(String what, boolean holds) {
        due(what, holds, true);
    }

    /** The class must be the very one: the document names no class above or below it. */
    static void dueThrow(String call, Class<? extends RuntimeException> want, Call made) {
        try {
            made.make();
        } catch (RuntimeException got) {
            if (got.getClass() != want) {
                wrong++;
                System.out.println(call + " threw " + got + ", due is " + want.getName());
            }
            return;
        }
        wrong++;
        System.out.println(call + " threw nothing, due is " + want.getName());
    }

    static void dueIndex(String call, Call made) {
        dueThrow(call, IndexOutOfBoundsException.class, made);
    }

    static void dueArgument(String call, Call made) {
        dueThrow(call, IllegalArgumentException.class, made);
    }

    static void dueState(String call, Call made) {
        dueThrow(call, IllegalStateException.class, made);
    }

    static void dueAnswer(String call, Call made) {
        try {
            made.make();
        } catch (RuntimeException got) {
            wrong++;
            System.out.println(call + " threw " + got + ", due is an answer");
        }
    }

    /** The least and the greatest number are allowed; their neighbours outside and the ends of an int are not. */
    static void dueRange(String call, int least, int greatest, Class<? extends RuntimeException> outside, NumberCall made) {
        for (int number : new int[] {least, greatest}) {
            dueAnswer(call + " of " + number, () -> made.make(number));
        }
        for (int number : new int[] {least - 1, greatest + 1, Integer.MIN_VALUE, Integer.MAX_VALUE}) {
            dueThrow(call + " of " + number, outside, () -> made.make(number));
        }
    }

    static void dueIndexRange(String call, int count, NumberCall made) {
        dueRange(call, 0, count - 1, IndexOutOfBoundsException.class, made);
    }

    static void dueArgumentRange(String call, int least, int greatest, NumberCall made) {
        dueRange(call, least, greatest, IllegalArgumentException.class, made);
    }

    static void loads(String text, int statements) {
        IrrigationTurns turns = new IrrigationTurns();
        due("load \"" + text + "\"", load(turns, text), statements);
        due("errorOffset() of \"" + text + "\"", turns.errorOffset(), -1);
    }

    /** The first error is due at the first byte of the rest; if there is no rest, at the end of the text. */
    static void refuses(int code, String before, String rest) {
        IrrigationTurns turns = new IrrigationTurns();
        due("load \"" + before + rest + "\"", load(turns, before + rest), code);
        due("errorOffset() of \"" + before + rest + "\"", turns.errorOffset(), before.length());
    }

    static IrrigationTurns loaded(String text) {
        IrrigationTurns turns = new IrrigationTurns();
        int statements = load(turns, text);
        isTrue("\"" + text + "\" loads", statements >= 0);
        return turns;
    }

    /** Appends the text with bytes behind it that no text may hold, so that reading too far shows. */
    static int load(IrrigationTurns turns, String text) {
        byte[] bytes = text.getBytes(StandardCharsets.ISO_8859_1);
        for (int at = 0; at < bytes.length; at += 20) {
            int got = turns.append(word(bytes, at), word(bytes, at + 4), word(bytes, at + 8), word(bytes, at + 12),
                    word(bytes, at + 16));
            due("append at " + at, got, at + 20);
        }
        return turns.load(bytes.length);
    }

    private static int word(byte[] bytes, int at) {
        int word = 0;
        for (int i = at; i < at + 4; i++) {
            word = word << 8 | (i < bytes.length ? bytes[i] & 255 : '#');
        }
        return word;
    }

    /** The whole that promise 21 tells: what came in is somewhere. */
    static void dueBalance(String when, IrrigationTurns turns) {
        long rest = 0;
        for (int what = 1; what <= 5; what++) {
            rest += turns.total(what);
        }
        due("total(0) " + when + ", against the other five", turns.total(0), rest);
    }

    static void finish() {
        if (wrong != 0) {
            System.out.println(wrong + " answers are not as due");
            System.exit(1);
        }
    }
}

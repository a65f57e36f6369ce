import java.math.BigInteger;
import java.util.ArrayList;
import java.util.List;
import java.util.regex.Matcher;
import java.util.regex.Pattern;

/** The grammar once more, for Model: over a list of tokens, and with an exception at the first error. */
final class ModelText {
    /** The first error of a text. */
    static final class Refused extends RuntimeException {
        private static final long serialVersionUID = 1L;
        final int code;
        final int offset;

        Refused(int code, int offset) {
            this.code = code;
            this.offset = offset;
        }
    }

    /** A part of the inflow expression. */
    interface Sum {
        long at(long hour, long turn);
    }

    /** What a text declares; a canal is {parent, delay, loss, capacity, share}, a field has its numbers in order. */
    static final class Setup {
        final List<int[]> canals = new ArrayList<>();
        final List<int[]> fields = new ArrayList<>();
        final List<int[]> turns = new ArrayList<>();
        final List<Integer> route = new ArrayList<>();
        Sum inflow = (hour, turn) -> 100;
        int statements = 0;
    }

    private static final Pattern TOKEN = Pattern.compile("[0-9]+|[a-z]+|[^ ]", Pattern.DOTALL);

    private final List<String> tokens = new ArrayList<>();
    private final List<Integer> offsets = new ArrayList<>();
    private final Setup setup = new Setup();
    private boolean guardSeen = false;
    private boolean inflowSeen = false;
    private int at = 0;

    ModelText(String text) {
        Matcher matcher = TOKEN.matcher(text);
        while (matcher.find()) {
            tokens.add(matcher.group());
            offsets.add(matcher.start());
        }
        tokens.add("");
        offsets.add(text.length());
    }

    Setup read() {
        while (!tokens.get(at).isEmpty()) {
            statement();
            want(";");
            setup.statements++;
        }
        return setup;
    }

    private Refused refused(int code) {
        return new Refused(code, offsets.get(at));
    }

    private boolean take(String token) {
        if (tokens.get(at).equals(token)) {
            at++;
            return true;
        }
        return false;
    }

    private void want(String token) {
        if (!take(token)) {
            throw refused(IrrigationTurns.SYNTAX_ERROR);
        }
    }

    private boolean atNumber() {
        return tokens.get(at).matches("[0-9]+");
    }

    private int number(long least, long greatest) {
        if (!atNumber()) {
            throw refused(IrrigationTurns.SYNTAX_ERROR);
        }
        BigInteger value = new BigInteger(tokens.get(at));
        if (value.compareTo(BigInteger.valueOf(least)) < 0 || value.compareTo(BigInteger.valueOf(greatest)) > 0) {
            throw refused(IrrigationTurns.OUT_OF_RANGE);
        }
        at++;
        return value.intValueExact();
    }

    private void room(int used, int most) {
        if (used == most) {
            throw refused(IrrigationTurns.TOO_MANY);
        }
        at++;
    }

    private void statement() {
        switch (tokens.get(at)) {
            case "canal" -> {
                room(setup.canals.size(), 16);
                int parent = -1;
                if (!setup.canals.isEmpty()) {
                    want("from");
                    parent = number(0, setup.canals.size() - 1);
                }
                int[] canal = {parent, number(1, 6), number(0, 50), number(1, 9999), 1};
                if (take("share")) {
                    canal[4] = number(0, 99);
                }
                setup.canals.add(canal);
            }
            case "field" -> {
                room(setup.fields.size(), 12);
                int[] field = {number(0, setup.canals.size() - 1), number(0, 5), number(1, 999), number(0, 9999),
                    number(1, 9999), number(0, 99), -1};
                if (take("over")) {
                    field[6] = number(0, setup.fields.size() - 1);
                }
                setup.fields.add(field);
            }
            case "turn" -> {
                room(setup.turns.size(), 12);
                setup.turns.add(new int[] {number(0, 5), number(1, 99)});
            }
            case "guard" -> guard();
            case "inflow" -> {
                if (inflowSeen) {
                    throw refused(IrrigationTurns.SYNTAX_ERROR);
                }
                inflowSeen = true;
                at++;
                setup.inflow = sum(0);
            }
            default -> throw refused(IrrigationTurns.SYNTAX_ERROR);
        }
    }

    private void guard() {
        if (guardSeen) {
            throw refused(IrrigationTurns.SYNTAX_ERROR);
        }
        guardSeen = true;
        at++;
        do {
            int before = at;
            int canal = number(0, setup.canals.size() - 1);
            if (setup.route.size() == 10) {
                at = before;
                throw refused(IrrigationTurns.TOO_MANY);
            }
            setup.route.add(canal);
        } while (atNumber());
    }

    private static long limited(long value) {
        return value > 1000000000 ? 1000000000 : value < -1000000000 ? -1000000000 : value;
    }

    private Sum sum(int depth) {
        Sum left = term(depth);
        while (true) {
            Sum before = left;
            if (take("+")) {
                Sum right = term(depth);
                left = (hour, turn) -> limited(before.at(hour, turn) + right.at(hour, turn));
            } else if (take("-")) {
                Sum right = term(depth);
                left = (hour, turn) -> limited(before.at(hour, turn) - right.at(hour, turn));
            } else {
                return left;
            }
        }
    }

    private Sum term(int depth) {
        Sum left = factor(depth);
        while (true) {
            Sum before = left;
            if (take("*")) {
                Sum right = factor(depth);
                left = (hour, turn) -> limited(before.at(hour, turn) * right.at(hour, turn));
            } else if (take("/")) {
                Sum right = factor(depth);
                left = (hour, turn) -> {
                    long divisor = right.at(hour, turn);
                    return divisor == 0 ? 0 : limited(before.at(hour, turn) / divisor);
                };
            } else {
                return left;
            }
        }
    }

    private Sum factor(int depth) {
        if (tokens.get(at).equals("(")) {
            if (depth == 4) {
                throw refused(IrrigationTurns.TOO_DEEP);
            }
            at++;
            Sum inner = sum(depth + 1);
            want(")");
            return inner;
        }
        if (take("hour")) {
            return (hour, turn) -> hour;
        }
        if (take("day")) {
            return (hour, turn) -> hour / 24;
        }
        if (take("turn")) {
            return (hour, turn) -> turn;
        }
        int value = number(0, 9999);
        return (hour, turn) -> value;
    }
}

/**
 * A simulation of an irrigation system for rice fields in which villages take turns.
 *
 * <p>All rows are made in the constructor and used again, because all calls of a run share one room of memory.
 */
public final class IrrigationTurns {
    /** Error code of load: the text does not follow the grammar. */
    public static final int SYNTAX_ERROR = -2;
    /** Error code of load: a number is not allowed. */
    public static final int OUT_OF_RANGE = -3;
    /** Error code of load: too many declarations or numbers. */
    public static final int TOO_MANY = -4;
    /** Error code of load: parentheses are nested too deeply. */
    public static final int TOO_DEEP = -5;

    private static final int VILLAGES = 6;
    private static final int MAX_CANALS = 16;
    private static final int MAX_DELAY = 6;
    private static final int MAX_FIELDS = 12;
    private static final int MAX_ENTRIES = 12;
    private static final int MAX_ROUTE = 10;
    private static final int MAX_NESTING = 4;
    private static final int MAX_AMOUNT = 9999;
    private static final int MAX_HOUR = 100000;
    private static final int BUFFER_BYTES = 900;
    private static final int APPENDED_BYTES = 20;
    private static final int UNDO_STEPS = 8;
    private static final int DEFAULT_INFLOW = 100;
    /** In place of a canal, field, village or offset that is not there. */
    private static final int NONE = -1;

    private final SetupReader reader = new SetupReader();
    private final State present = new State();
    private final State forecast = new State();
    private final History history = new History();
    private int errorAt = NONE;

    public IrrigationTurns() {
    }

    public int append(int w0, int w1, int w2, int w3, int w4) {
        Tokens buffer = reader.tokens;
        if (buffer.filled + APPENDED_BYTES > BUFFER_BYTES) {
            return -1;
        }
        buffer.addWord(w0);
        buffer.addWord(w1);
        buffer.addWord(w2);
        buffer.addWord(w3);
        buffer.addWord(w4);
        return buffer.filled;
    }

    public int load(int length) throws IllegalArgumentException {
        requireRange(length, 0, reader.tokens.filled);
        int result = reader.readSetup(length);
        reader.tokens.filled = 0;
        errorAt = reader.errorStart;
        if (result >= 0) {
            history.save(present);
            present.copyFrom(reader.draft);
        }
        return result;
    }

    public int errorOffset() {
        return errorAt;
    }

    public int canalCount() {
        return present.canals.count;
    }

    public int fieldCount() {
        return present.fields.count;
    }

    public int clock() {
        return present.hour;
    }

    public int cycleLength() {
        return present.rotation.cycle;
    }

    public int turnAt(int hour) throws IllegalArgumentException {
        requireRange(hour, 0, MAX_HOUR);
        return present.rotation.villageIn(hour);
    }

    public int inflow(int hour) throws IllegalArgumentException {
        requireRange(hour, 0, MAX_HOUR);
        return present.formula.inflowIn(hour, present.rotation.villageIn(hour));
    }

    public int guardAt() {
        return present.guard.place();
    }

    public int parent(int canal) throws IndexOutOfBoundsException {
        requireIndex(canal, present.canals.count);
        return present.canals.parent[canal];
    }

    public int waterIn(int canal, int hours) throws IndexOutOfBoundsException, IllegalArgumentException {
        requireIndex(canal, present.canals.count);
        requireRange(hours, 0, MAX_DELAY - 1);
        return present.canals.amountDue(canal, present.hour, hours);
    }

    public int arrived(int canal) throws IndexOutOfBoundsException {
        requireIndex(canal, present.canals.count);
        return present.canals.arrived[canal];
    }

    public boolean isOpen(int field) throws IndexOutOfBoundsException {
        requireIndex(field, present.fields.count);
        return present.fields.hasOpenGate(field, present.rotation.villageIn(present.hour));
    }

    public boolean isForced(int field) throws IndexOutOfBoundsException {
        requireIndex(field, present.fields.count);
        return present.fields.forced[field];
    }

    public int water(int field) throws IndexOutOfBoundsException {
        requireIndex(field, present.fields.count);
        return present.fields.water[field];
    }

    public int taken(int field) throws IndexOutOfBoundsException {
        requireIndex(field, present.fields.count);
        return present.fields.taken[field];
    }

    public int stolen(int field) throws IndexOutOfBoundsException {
        requireIndex(field, present.fields.count);
        return present.fields.stolen[field];
    }

    public int fines(int village) throws IndexOutOfBoundsException {
        requireIndex(village, VILLAGES);
        return present.ledger.fines[village];
    }

    public long total(int what) throws IllegalArgumentException {
        requireRange(what, 0, 5);
        switch (what) {
            case 0:
                return present.ledger.entered;
            case 1:
                return present.canals.waterInAll();
            case 2:
                return present.fields.waterInAll();
            case 3:
                return present.ledger.spilled;
            case 4:
                return present.ledger.lost;
            default:
                return present.ledger.seeped;
        }
    }

    public int fairHours(int village, int hours) throws IndexOutOfBoundsException, IllegalArgumentException {
        requireIndex(village, VILLAGES);
        requireRange(hours, 0, 1000);
        return present.fields.fairPart(village, hours);
    }

    public int hoursUntil(int field, int limit) throws IndexOutOfBoundsException, IllegalArgumentException {
        requireIndex(field, present.fields.count);
        requireRange(limit, 0, 100);
        forecast.copyFrom(present);
        for (int hours = 0; hours < limit; hours++) {
            if (forecast.fields.meetsDemand(field)) {
                return hours;
            }
            forecast.passHour();
        }
        return forecast.fields.meetsDemand(field) ? limit : -1;
    }

    public int expected(int canal, int hours) throws IndexOutOfBoundsException, IllegalArgumentException {
        requireIndex(canal, present.canals.count);
        requireRange(hours, 0, 100);
        return forecastArrivals(canal, hours, NONE);
    }

    public int suspect(int canal, int hours, int amount) throws IndexOutOfBoundsException, IllegalArgumentException {
        requireIndex(canal, present.canals.count);
        requireRange(hours, 1, 50);
        if (forecastArrivals(canal, hours, NONE) == amount) {
            return -2;
        }
        for (int field = 0; field < present.fields.count; field++) {
            if (!present.fields.forced[field] && forecastArrivals(canal, hours, field) == amount) {
                return field;
            }
        }
        return -1;
    }

    public int run(int hours) throws IllegalArgumentException, IllegalStateException {
        requireRange(hours, 1, 100);
        if (present.canals.count == 0 || present.hour + hours > MAX_HOUR) {
            throw new IllegalStateException();
        }
        history.save(present);
        int sum = 0;
        for (int i = 0; i < hours; i++) {
            sum += present.passHour();
        }
        return sum;
    }

    public int force(int field) throws IndexOutOfBoundsException, IllegalStateException {
        requireIndex(field, present.fields.count);
        if (present.fields.forced[field]) {
            throw new IllegalStateException();
        }
        history.save(present);
        present.fields.forced[field] = true;
        return present.fields.countForced();
    }

    public int swapTurns(int one, int other) throws IndexOutOfBoundsException {
        requireIndex(one, present.rotation.count);
        requireIndex(other, present.rotation.count);
        history.save(present);
        present.rotation.exchange(one, other);
        return present.rotation.villageIn(present.hour);
    }

    public int undo() {
        return history.restore(present) ? history.count : -1;
    }

    public long checksum() {
        long sum = present.hour;
        Canals canals = present.canals;
        for (int canal = 0; canal < canals.count; canal++) {
            for (int ahead = 0; ahead < canals.delay[canal]; ahead++) {
                sum = 31 * sum + canals.amountDue(canal, present.hour, ahead);
            }
        }
        Fields fields = present.fields;
        for (int field = 0; field < fields.count; field++) {
            sum = 31 * sum + fields.water[field];
            sum = 31 * sum + fields.taken[field];
            sum = 31 * sum + fields.stolen[field];
            sum = 31 * sum + (fields.forced[field] ? 1 : 0);
        }
        for (int village = 0; village < VILLAGES; village++) {
            sum = 31 * sum + present.ledger.fines[village];
        }
        return 31 * sum + present.guard.place();
    }

    /** Forces the gate of one field more in the forecast, unless that field is NONE. */
    private int forecastArrivals(int canal, int hours, int field) {
        forecast.copyFrom(present);
        if (field >= 0 && field < forecast.fields.count) {
            forecast.fields.forced[field] = true;
        }
        int sum = 0;
        for (int i = 0; i < hours; i++) {
            forecast.passHour();
            sum += forecast.canals.arrived[canal];
        }
        return sum;
    }

    private static void requireIndex(int index, int count) {
        if (index < 0 || index >= count) {
            throw new IndexOutOfBoundsException();
        }
    }

    private static void requireRange(int value, int least, int greatest) {
        if (value < least || value > greatest) {
            throw new IllegalArgumentException();
        }
    }

    private static void copyRow(int[] from, int[] to) {
        System.arraycopy(from, 0, to, 0, Math.min(from.length, to.length));
    }

    /** Everything that a change may alter, so that a copy of it serves undo and the forecasts. */
    private static final class State {
        final Canals canals = new Canals();
        final Fields fields = new Fields();
        final Rotation rotation = new Rotation();
        final Guard guard = new Guard();
        final Formula formula = new Formula();
        final Ledger ledger = new Ledger();
        int hour;

        /** Leaves alone what only hours change: the state that texts are read into never sees an hour. */
        void forgetSetup() {
            canals.count = 0;
            fields.count = 0;
            rotation.count = 0;
            rotation.cycle = 0;
            guard.length = 0;
            formula.clear();
            formula.add(DEFAULT_INFLOW);
        }

        void copyFrom(State other) {
            canals.copyFrom(other.canals);
            fields.copyFrom(other.fields);
            rotation.copyFrom(other.rotation);
            guard.copyFrom(other.guard);
            formula.copyFrom(other.formula);
            ledger.copyFrom(other.ledger);
            hour = other.hour;
        }

        /** Answers what all fields took through their gates. */
        int passHour() {
            int turn = rotation.villageIn(hour);
            int amount = formula.inflowIn(hour, turn);
            ledger.entered += amount;
            enter(0, amount);
            fields.markOpenCanals(canals, turn);
            int sum = 0;
            for (int canal = 0; canal < canals.count; canal++) {
                int came = canals.letArrive(canal, hour);
                int rest = fields.takeFrom(canal, came, turn);
                sum += came - rest;
                if (rest > 0) {
                    divide(canal, rest);
                }
            }
            for (int field = fields.count - 1; field >= 0; field--) {
                ledger.seeped += fields.seepAway(field);
                ledger.spilled += fields.overflow(field);
            }
            closeForcedGates(guard.walk());
            hour++;
            return sum;
        }

        /** The first child gets what the others leave, and so its own part with all that rounding keeps back. */
        private void divide(int canal, int rest) {
            int shares = canals.openShares(canal);
            int first = canals.firstOpenChild(canal);
            if (shares <= 0 || first < 0) {
                ledger.spilled += rest;
                return;
            }
            int left = rest;
            for (int child = first + 1; child < canals.count; child++) {
                if (canals.isOpenChild(child, canal)) {
                    int part = rest * canals.share[child] / shares;
                    enter(child, part);
                    left -= part;
                }
            }
            enter(first, left);
        }

        private void enter(int canal, int amount) {
            if (canal >= canals.count) {
                return;
            }
            int admitted = Math.min(amount, canals.capacity[canal]);
            int lost = admitted * canals.loss[canal] / 100;
            ledger.spilled += amount - admitted;
            ledger.lost += lost;
            canals.send(canal, hour, admitted - lost);
        }

        private void closeForcedGates(int canal) {
            for (int field = 0; field < fields.count; field++) {
                if (fields.canal[field] == canal && fields.forced[field]) {
                    fields.forced[field] = false;
                    ledger.fine(fields.village[field]);
                }
            }
        }
    }

    /** The tree of canals with the water on its way in them. */
    private static final class Canals {
        /** One more than the longest delay: what enters in an hour must not meet what is yet to arrive in it. */
        private static final int SLOTS = MAX_DELAY + 1;

        final int[] parent = new int[MAX_CANALS];
        final int[] delay = new int[MAX_CANALS];
        final int[] loss = new int[MAX_CANALS];
        final int[] capacity = new int[MAX_CANALS];
        final int[] share = new int[MAX_CANALS];
        final int[] arrived = new int[MAX_CANALS];
        /** Made anew in each hour, and so never copied. */
        private final boolean[] open = new boolean[MAX_CANALS];
        private final int[] moving = new int[MAX_CANALS * SLOTS];
        int count;

        void copyFrom(Canals other) {
            copyRow(other.parent, parent);
            copyRow(other.delay, delay);
            copyRow(other.loss, loss);
            copyRow(other.capacity, capacity);
            copyRow(other.share, share);
            copyRow(other.arrived, arrived);
            copyRow(other.moving, moving);
            count = other.count;
        }

        private static int slot(int canal, int hour) {
            return canal * SLOTS + hour % SLOTS;
        }

        void send(int canal, int hour, int amount) {
            moving[slot(canal, hour + delay[canal])] = amount;
        }

        int letArrive(int canal, int hour) {
            int slot = slot(canal, hour);
            arrived[canal] = moving[slot];
            moving[slot] = 0;
            return arrived[canal];
        }

        int amountDue(int canal, int hour, int ahead) {
            return ahead < delay[canal] ? moving[slot(canal, hour + ahead)] : 0;
        }

        long waterInAll() {
            long sum = 0;
            for (int i = 0; i < count * SLOTS; i++) {
                sum += moving[i];
            }
            return sum;
        }

        void closeAll() {
            for (int canal = 0; canal < count; canal++) {
                open[canal] = false;
            }
        }

        void openAt(int canal) {
            if (canal >= 0 && canal < count) {
                open[canal] = true;
            }
        }

        /** One way up is enough, because a parent has a smaller index than its children. */
        void openParents() {
            for (int canal = count - 1; canal > 0; canal--) {
                if (open[canal]) {
                    openAt(parent[canal]);
                }
            }
        }

        boolean isOpenChild(int child, int canal) {
            return parent[child] == canal && open[child];
        }

        int openShares(int canal) {
            int sum = 0;
            for (int child = canal + 1; child < count; child++) {
                if (isOpenChild(child, canal)) {
                    sum += share[child];
                }
            }
            return sum;
        }

        /** Passes over a child whose share is 0: it gets nothing, not even what rounding keeps back. */
        int firstOpenChild(int canal) {
            for (int child = canal + 1; child < count; child++) {
                if (isOpenChild(child, canal) && share[child] > 0) {
                    return child;
                }
            }
            return NONE;
        }
    }

    /** The fields with their gates. */
    private static final class Fields {
        final int[] canal = new int[MAX_FIELDS];
        final int[] village = new int[MAX_FIELDS];
        final int[] intake = new int[MAX_FIELDS];
        final int[] demand = new int[MAX_FIELDS];
        final int[] bank = new int[MAX_FIELDS];
        final int[] seepage = new int[MAX_FIELDS];
        final int[] under = new int[MAX_FIELDS];
        final int[] water = new int[MAX_FIELDS];
        final int[] taken = new int[MAX_FIELDS];
        final int[] stolen = new int[MAX_FIELDS];
        final boolean[] forced = new boolean[MAX_FIELDS];
        int count;

        void copyFrom(Fields other) {
            copyRow(other.canal, canal);
            copyRow(other.village, village);
            copyRow(other.intake, intake);
            copyRow(other.demand, demand);
            copyRow(other.bank, bank);
            copyRow(other.seepage, seepage);
            copyRow(other.under, under);
            copyRow(other.water, water);
            copyRow(other.taken, taken);
            copyRow(other.stolen, stolen);
            count = other.count;
            for (int field = 0; field < count; field++) {
                forced[field] = other.forced[field];
            }
        }

        boolean hasOpenGate(int field, int turn) {
            return village[field] == turn || forced[field];
        }

        boolean meetsDemand(int field) {
            return water[field] >= demand[field];
        }

        void markOpenCanals(Canals canals, int turn) {
            canals.closeAll();
            for (int field = 0; field < count; field++) {
                if (hasOpenGate(field, turn)) {
                    canals.openAt(canal[field]);
                }
            }
            canals.openParents();
        }

        /** Answers what the fields at the canal leave of the amount. */
        int takeFrom(int place, int amount, int turn) {
            int rest = amount;
            for (int field = 0; field < count; field++) {
                if (canal[field] == place && hasOpenGate(field, turn)) {
                    int part = Math.min(intake[field], rest);
                    rest -= part;
                    water[field] += part;
                    taken[field] += part;
                    stolen[field] += village[field] == turn ? 0 : part;
                }
            }
            return rest;
        }

        int seepAway(int field) {
            int part = Math.min(seepage[field], water[field]);
            water[field] -= part;
            return part;
        }

        /** Answers what no field below receives. */
        int overflow(int field) {
            int excess = Math.max(0, water[field] - bank[field]);
            water[field] -= excess;
            int below = under[field];
            if (below < 0 || below >= field) {
                return excess;
            }
            water[below] += excess;
            return 0;
        }

        long waterInAll() {
            long sum = 0;
            for (int field = 0; field < count; field++) {
                sum += water[field];
            }
            return sum;
        }

        int countForced() {
            int sum = 0;
            for (int field = 0; field < count; field++) {
                sum += forced[field] ? 1 : 0;
            }
            return sum;
        }

        private int demandOf(int someone) {
            int sum = 0;
            for (int field = 0; field < count; field++) {
                sum += village[field] == someone ? demand[field] : 0;
            }
            return sum;
        }

        int fairPart(int someone, int hours) {
            int all = 0;
            for (int each = 0; each < VILLAGES; each++) {
                all += demandOf(each);
            }
            if (all <= 0) {
                return 0;
            }
            int product = hours * demandOf(someone);
            int remainder = product % all;
            int left = hours;
            int ahead = 0;
            for (int each = 0; each < VILLAGES; each++) {
                int otherProduct = hours * demandOf(each);
                int otherRemainder = otherProduct % all;
                left -= otherProduct / all;
                boolean earlier = otherRemainder == remainder && each < someone;
                ahead += otherRemainder > remainder || earlier ? 1 : 0;
            }
            return product / all + (ahead < left ? 1 : 0);
        }
    }

    /** The entries that take turns. */
    private static final class Rotation {
        final int[] village = new int[MAX_ENTRIES];
        final int[] hours = new int[MAX_ENTRIES];
        int count;
        int cycle;

        void copyFrom(Rotation other) {
            copyRow(other.village, village);
            copyRow(other.hours, hours);
            count = other.count;
            cycle = other.cycle;
        }

        int villageIn(int hour) {
            if (cycle <= 0) {
                return NONE;
            }
            int left = hour % cycle;
            for (int entry = 0; entry < count; entry++) {
                if (left < hours[entry]) {
                    return village[entry];
                }
                left -= hours[entry];
            }
            return NONE;
        }

        void exchange(int one, int other) {
            int oneVillage = village[one];
            int oneHours = hours[one];
            village[one] = village[other];
            hours[one] = hours[other];
            village[other] = oneVillage;
            hours[other] = oneHours;
        }
    }

    /** The guard's route; without canals on it there is no guard. */
    private static final class Guard {
        private final int[] route = new int[MAX_ROUTE];
        int length;
        private int position;

        void copyFrom(Guard other) {
            copyRow(other.route, route);
            length = other.length;
            position = other.position;
        }

        void addStop(int canal) {
            if (length < route.length) {
                route[length] = canal;
                length++;
            }
        }

        int place() {
            return position < length ? route[position] : NONE;
        }

        int walk() {
            position = position + 1 < length ? position + 1 : 0;
            return place();
        }
    }

    /** What is counted over all simulated hours. */
    private static final class Ledger {
        final int[] fines = new int[VILLAGES];
        long entered;
        long spilled;
        long lost;
        long seeped;

        void copyFrom(Ledger other) {
            copyRow(other.fines, fines);
            entered = other.entered;
            spilled = other.spilled;
            lost = other.lost;
            seeped = other.seeped;
        }

        void fine(int village) {
            if (village >= 0 && village < VILLAGES) {
                fines[village]++;
            }
        }
    }

    /** The inflow expression, with each operator behind its two operands: so it needs no tree of objects. */
    private static final class Formula {
        static final int HOUR = -1;
        static final int DAY = -2;
        static final int TURN = -3;
        static final int ADD = -4;
        static final int SUBTRACT = -5;
        static final int MULTIPLY = -6;
        static final int DIVIDE = -7;

        private static final long LIMIT = 1000000000L;
        /** A level of parentheses leaves at most two operands waiting, one of a sum and one of a term. */
        private static final int STACK = 2 * (MAX_NESTING + 1) + 1;

        /** A code that is 0 or more is a number. No text holds more codes than bytes. */
        private final int[] codes = new int[BUFFER_BYTES];
        private final long[] stack = new long[STACK];
        private int length;

        Formula() {
            codes[0] = DEFAULT_INFLOW;
            length = 1;
        }

        void clear() {
            length = 0;
        }

        void copyFrom(Formula other) {
            length = other.length;
            System.arraycopy(other.codes, 0, codes, 0, length);
        }

        void add(int code) {
            if (length < codes.length) {
                codes[length] = code;
                length++;
            }
        }

        int inflowIn(int hour, int turn) {
            int height = 0;
            for (int i = 0; i < length; i++) {
                int code = codes[i];
                if (code > ADD && height < STACK) {
                    stack[height] = operand(code, hour, turn);
                    height++;
                } else if (code <= ADD && height >= 2) {
                    height--;
                    long result = combine(code, stack[height - 1], stack[height]);
                    stack[height - 1] = Math.max(-LIMIT, Math.min(LIMIT, result));
                }
            }
            return (int) Math.max(0, Math.min(MAX_AMOUNT, stack[0]));
        }

        private static long operand(int code, int hour, int turn) {
            switch (code) {
                case HOUR:
                    return hour;
                case DAY:
                    return hour / 24;
                case TURN:
                    return turn;
                default:
                    return code;
            }
        }

        private static long combine(int code, long left, long right) {
            switch (code) {
                case ADD:
                    return left + right;
                case SUBTRACT:
                    return left - right;
                case MULTIPLY:
                    return left * right;
                default:
                    return right == 0 ? 0 : left / right;
            }
        }
    }

    /** The latest states before a change; the oldest one makes room when all places are full. */
    private static final class History {
        private final State[] saved = new State[UNDO_STEPS];
        private int next;
        int count;

        History() {
            for (int i = 0; i < UNDO_STEPS; i++) {
                saved[i] = new State();
            }
        }

        void save(State state) {
            saved[next].copyFrom(state);
            next = next + 1 < UNDO_STEPS ? next + 1 : 0;
            count = Math.min(count + 1, UNDO_STEPS);
        }

        boolean restore(State state) {
            if (count == 0) {
                return false;
            }
            next = next > 0 ? next - 1 : UNDO_STEPS - 1;
            state.copyFrom(saved[next]);
            count--;
            return true;
        }
    }

    /** The input buffer, and the tokens of a text in it. */
    private static final class Tokens {
        /** Kinds of tokens; any other byte is a token whose kind is the byte itself. */
        static final int END = -1;
        static final int NUMBER = -2;
        static final int WORD = -3;

        /** Above every range of the grammar, so that long numbers need not be told apart. */
        private static final int HUGE = 1000000;

        private final byte[] bytes = new byte[BUFFER_BYTES];
        int filled;
        int kind;
        int start;
        int value;
        private int length;
        private int position;

        void addWord(int word) {
            for (int shift = 24; shift >= 0; shift -= 8) {
                if (filled < bytes.length) {
                    bytes[filled] = (byte) (word >>> shift);
                    filled++;
                }
            }
        }

        void begin(int textLength) {
            length = Math.min(textLength, filled);
            position = 0;
            next();
        }

        void next() {
            while (position < length && bytes[position] == ' ') {
                position++;
            }
            start = position;
            if (position >= length) {
                kind = END;
            } else if (bytes[position] >= '0' && bytes[position] <= '9') {
                kind = NUMBER;
                value = 0;
                while (position < length && bytes[position] >= '0' && bytes[position] <= '9') {
                    value = Math.min(HUGE, value * 10 + bytes[position] - '0');
                    position++;
                }
            } else if (bytes[position] >= 'a' && bytes[position] <= 'z') {
                kind = WORD;
                while (position < length && bytes[position] >= 'a' && bytes[position] <= 'z') {
                    position++;
                }
            } else {
                kind = bytes[position] & 255;
                position++;
            }
        }

        boolean isWord(String word) {
            if (kind != WORD || position - start != word.length()) {
                return false;
            }
            for (int i = 0; i < word.length(); i++) {
                if (bytes[start + i] != word.charAt(i)) {
                    return false;
                }
            }
            return true;
        }
    }

    /**
     * Reads a setup text into a draft. The tokens are judged from left to right, each by the kinds of errors in
     * their order, and only the first error is kept; so what runs on after it does no harm.
     */
    private static final class SetupReader {
        final Tokens tokens = new Tokens();
        final State draft = new State();
        int errorStart;
        private int error;
        private boolean hasInflow;

        /** Answers the number of statements, or the code of the first error. */
        int readSetup(int length) {
            draft.forgetSetup();
            error = 0;
            errorStart = NONE;
            hasInflow = false;
            tokens.begin(length);
            int statements = 0;
            while (statements <= BUFFER_BYTES && error == 0 && tokens.kind != Tokens.END) {
                readStatement();
                skipSign(';');
                statements++;
            }
            return error == 0 ? statements : error;
        }

        private void readStatement() {
            if (tokens.isWord("canal")) {
                readCanal(draft.canals);
            } else if (tokens.isWord("field")) {
                readField(draft.fields);
            } else if (tokens.isWord("turn")) {
                readTurn(draft.rotation);
            } else if (tokens.isWord("guard") && draft.guard.length == 0) {
                readGuard(draft.guard);
            } else if (tokens.isWord("inflow") && !hasInflow) {
                hasInflow = true;
                draft.formula.clear();
                tokens.next();
                readSum(0);
            } else {
                fail(SYNTAX_ERROR);
            }
        }

        private void readCanal(Canals canals) {
            int canal = canals.count;
            if (canal >= MAX_CANALS) {
                fail(TOO_MANY);
                return;
            }
            tokens.next();
            canals.parent[canal] = canal == 0 ? NONE : readParent(canal);
            canals.delay[canal] = readNumber(1, MAX_DELAY);
            canals.loss[canal] = readNumber(0, 50);
            canals.capacity[canal] = readNumber(1, MAX_AMOUNT);
            canals.share[canal] = readOptional("share", 99, 1);
            canals.count++;
        }

        private int readParent(int canal) {
            if (!tokens.isWord("from")) {
                fail(SYNTAX_ERROR);
            }
            return readOptional("from", canal - 1, NONE);
        }

        private void readField(Fields fields) {
            int field = fields.count;
            if (field >= MAX_FIELDS) {
                fail(TOO_MANY);
                return;
            }
            tokens.next();
            fields.canal[field] = readNumber(0, draft.canals.count - 1);
            fields.village[field] = readNumber(0, VILLAGES - 1);
            fields.intake[field] = readNumber(1, 999);
            fields.demand[field] = readNumber(0, MAX_AMOUNT);
            fields.bank[field] = readNumber(1, MAX_AMOUNT);
            fields.seepage[field] = readNumber(0, 99);
            fields.under[field] = readOptional("over", field - 1, NONE);
            fields.count++;
        }

        private void readTurn(Rotation rotation) {
            int entry = rotation.count;
            if (entry >= MAX_ENTRIES) {
                fail(TOO_MANY);
                return;
            }
            tokens.next();
            rotation.village[entry] = readNumber(0, VILLAGES - 1);
            rotation.hours[entry] = readNumber(1, 99);
            rotation.cycle += rotation.hours[entry];
            rotation.count++;
        }

        /** An 11th number that is out of range besides counts as out of range. */
        private void readGuard(Guard guard) {
            int canals = draft.canals.count;
            tokens.next();
            guard.addStop(readNumber(0, canals - 1));
            for (int stop = 1; stop <= MAX_ROUTE && error == 0 && tokens.kind == Tokens.NUMBER; stop++) {
                if (stop == MAX_ROUTE && tokens.value < canals) {
                    fail(TOO_MANY);
                }
                guard.addStop(readNumber(0, canals - 1));
            }
        }

        private void readSum(int depth) {
            readTerm(depth);
            for (int i = 0; i < BUFFER_BYTES && error == 0; i++) {
                int sign = tokens.kind;
                if (sign != '+' && sign != '-') {
                    return;
                }
                tokens.next();
                readTerm(depth);
                draft.formula.add(sign == '+' ? Formula.ADD : Formula.SUBTRACT);
            }
        }

        private void readTerm(int depth) {
            readFactor(depth);
            for (int i = 0; i < BUFFER_BYTES && error == 0; i++) {
                int sign = tokens.kind;
                if (sign != '*' && sign != '/') {
                    return;
                }
                tokens.next();
                readFactor(depth);
                draft.formula.add(sign == '*' ? Formula.MULTIPLY : Formula.DIVIDE);
            }
        }

        private void readFactor(int depth) {
            if (tokens.kind == '(' && depth >= MAX_NESTING) {
                fail(TOO_DEEP);
            } else if (tokens.kind == '(') {
                tokens.next();
                readSum(depth + 1);
                skipSign(')');
            } else if (tokens.isWord("hour")) {
                addOperand(Formula.HOUR);
            } else if (tokens.isWord("day")) {
                addOperand(Formula.DAY);
            } else if (tokens.isWord("turn")) {
                addOperand(Formula.TURN);
            } else {
                draft.formula.add(readNumber(0, MAX_AMOUNT));
            }
        }

        private void addOperand(int code) {
            draft.formula.add(code);
            tokens.next();
        }

        /** Reads the number behind the word, or answers the other value where the word is missing. */
        private int readOptional(String word, int greatest, int missing) {
            if (error != 0 || !tokens.isWord(word)) {
                return missing;
            }
            tokens.next();
            return readNumber(0, greatest);
        }

        /** Answers -1 after an error. */
        private int readNumber(int least, int greatest) {
            if (tokens.kind != Tokens.NUMBER) {
                fail(SYNTAX_ERROR);
            } else if (tokens.value < least || tokens.value > greatest) {
                fail(OUT_OF_RANGE);
            }
            if (error != 0) {
                return -1;
            }
            int number = tokens.value;
            tokens.next();
            return number;
        }

        private void skipSign(char sign) {
            if (tokens.kind != sign) {
                fail(SYNTAX_ERROR);
            } else {
                tokens.next();
            }
        }

        private void fail(int code) {
            if (error == 0) {
                error = code;
                errorStart = tokens.start;
            }
        }
    }
}

import java.util.ArrayList;
import java.util.List;
import java.util.TreeMap;

/**
 * The document once more, written for plainness and unlike the class: water on its way is kept by the hour of its
 * arrival, and a state of the past is reached by doing all changes again.
 */
final class Model {
    /** A change that can be done again. */
    interface Change {
        void on(Day day);
    }

    /** All data between two changes. */
    static final class Day {
        ModelText.Setup setup = new ModelText.Setup();
        List<int[]> rotation = new ArrayList<>();
        int clock;
        int guard;
        List<TreeMap<Integer, Integer>> arrivals = new ArrayList<>();
        int[] arrived = new int[16];
        int[] water = new int[12];
        int[] taken = new int[12];
        int[] stolen = new int[12];
        boolean[] forced = new boolean[12];
        int[] fines = new int[6];
        long[] totals = new long[6];

        void begin(ModelText.Setup read) {
            setup = read;
            rotation = new ArrayList<>(read.turns);
            clock = 0;
            guard = 0;
            arrivals = new ArrayList<>();
            for (int i = 0; i < read.canals.size(); i++) {
                arrivals.add(new TreeMap<>());
            }
            arrived = new int[16];
            water = new int[12];
            taken = new int[12];
            stolen = new int[12];
            forced = new boolean[12];
            fines = new int[6];
            totals = new long[6];
        }

        Day copy() {
            Day day = new Day();
            day.begin(setup);
            day.rotation = new ArrayList<>(rotation);
            day.clock = clock;
            day.guard = guard;
            for (int i = 0; i < arrivals.size(); i++) {
                day.arrivals.get(i).putAll(arrivals.get(i));
            }
            day.arrived = arrived.clone();
            day.water = water.clone();
            day.taken = taken.clone();
            day.stolen = stolen.clone();
            day.forced = forced.clone();
            day.fines = fines.clone();
            day.totals = totals.clone();
            return day;
        }

        int cycle() {
            return rotation.stream().mapToInt(entry -> entry[1]).sum();
        }

        int turnAt(int hour) {
            List<Integer> cycle = new ArrayList<>();
            for (int[] entry : rotation) {
                for (int i = 0; i < entry[1]; i++) {
                    cycle.add(entry[0]);
                }
            }
            return cycle.isEmpty() ? -1 : cycle.get(hour % cycle.size());
        }

        int inflow(int hour) {
            long value = setup.inflow.at(hour, turnAt(hour));
            return value < 0 ? 0 : value > 9999 ? 9999 : (int) value;
        }

        boolean isOpen(int field) {
            return forced[field] || setup.fields.get(field)[1] == turnAt(clock);
        }

        boolean leadsToOpenGate(int canal) {
            for (int field = 0; field < setup.fields.size(); field++) {
                if (setup.fields.get(field)[0] == canal && isOpen(field)) {
                    return true;
                }
            }
            for (int child = 0; child < setup.canals.size(); child++) {
                if (setup.canals.get(child)[0] == canal && leadsToOpenGate(child)) {
                    return true;
                }
            }
            return false;
        }

        void enter(int canal, int amount) {
            int[] numbers = setup.canals.get(canal);
            int admitted = amount > numbers[3] ? numbers[3] : amount;
            totals[3] += amount - admitted;
            int lost = (int) Math.floor(admitted * (double) numbers[2] / 100 + 1e-9);
            totals[4] += lost;
            arrivals.get(canal).merge(clock + numbers[1], admitted - lost, Integer::sum);
        }

        int hour() {
            int inflow = inflow(clock);
            totals[0] += inflow;
            enter(0, inflow);
            int sum = 0;
            for (int canal = 0; canal < setup.canals.size(); canal++) {
                Integer found = arrivals.get(canal).remove(clock);
                arrived[canal] = found == null ? 0 : found;
                int rest = arrived[canal];
                for (int field = 0; field < setup.fields.size(); field++) {
                    int[] numbers = setup.fields.get(field);
                    if (numbers[0] == canal && isOpen(field)) {
                        int part = numbers[2] < rest ? numbers[2] : rest;
                        rest -= part;
                        water[field] += part;
                        taken[field] += part;
                        sum += part;
                        if (numbers[1] != turnAt(clock)) {
                            stolen[field] += part;
                        }
                    }
                }
                divide(canal, rest);
            }
            for (int field = setup.fields.size() - 1; field >= 0; field--) {
                drain(field);
            }
            guardWalks();
            clock++;
            return sum;
        }

        private void divide(int canal, int rest) {
            List<Integer> open = new ArrayList<>();
            int shares = 0;
            for (int child = 0; child < setup.canals.size(); child++) {
                if (setup.canals.get(child)[0] == canal && leadsToOpenGate(child)) {
                    open.add(child);
                    shares += setup.canals.get(child)[4];
                }
            }
            if (shares == 0) {
                totals[3] += rest;
                return;
            }
            TreeMap<Integer, Integer> parts = new TreeMap<>();
            int given = 0;
            for (int child : open) {
                if (setup.canals.get(child)[4] > 0) {
                    int part = rest * setup.canals.get(child)[4] / shares;
                    parts.put(child, part);
                    given += part;
                }
            }
            parts.merge(parts.firstKey(), rest - given, Integer::sum);
            parts.forEach(this::enter);
        }

        private void drain(int field) {
            int[] numbers = setup.fields.get(field);
            for (int i = 0; i < numbers[5] && water[field] > 0; i++) {
                water[field]--;
                totals[5]++;
            }
            while (water[field] > numbers[4]) {
                water[field]--;
                if (numbers[6] < 0) {
                    totals[3]++;
                } else {
                    water[numbers[6]]++;
                }
            }
        }

        private void guardWalks() {
            if (setup.route.isEmpty()) {
                return;
            }
            guard = (guard + 1) % setup.route.size();
            for (int field = 0; field < setup.fields.size(); field++) {
                if (forced[field] && setup.fields.get(field)[0] == setup.route.get(guard)) {
                    forced[field] = false;
                    fines[setup.fields.get(field)[1]]++;
                }
            }
        }

        int waterIn(int canal, int hours) {
            return arrivals.get(canal).getOrDefault(clock + hours, 0);
        }

        long total(int what) {
            if (what == 1) {
                return arrivals.stream().flatMap(row -> row.values().stream()).mapToLong(Integer::longValue).sum();
            }
            long sum = totals[what];
            for (int field = 0; what == 2 && field < setup.fields.size(); field++) {
                sum += water[field];
            }
            return sum;
        }

        int guardAt() {
            return setup.route.isEmpty() ? -1 : setup.route.get(guard);
        }

        long checksum() {
            List<Integer> numbers = new ArrayList<>();
            numbers.add(clock);
            for (int canal = 0; canal < setup.canals.size(); canal++) {
                for (int ahead = 0; ahead < setup.canals.get(canal)[1]; ahead++) {
                    numbers.add(waterIn(canal, ahead));
                }
            }
            for (int field = 0; field < setup.fields.size(); field++) {
                numbers.addAll(List.of(water[field], taken[field], stolen[field], forced[field] ? 1 : 0));
            }
            for (int fine : fines) {
                numbers.add(fine);
            }
            numbers.add(guardAt());
            long sum = 0;
            for (int number : numbers) {
                sum = 31 * sum + number;
            }
            return sum;
        }
    }

    Day day = new Day();
    int errorOffset = -1;
    private final List<Change> changes = new ArrayList<>();
    private int undoable = 0;

    private void change(Change change) {
        changes.add(change);
        change.on(day);
        undoable = undoable < 8 ? undoable + 1 : 8;
    }

    int load(String text) {
        try {
            ModelText.Setup setup = new ModelText(text).read();
            errorOffset = -1;
            change(some -> some.begin(setup));
            return setup.statements;
        } catch (ModelText.Refused refused) {
            errorOffset = refused.offset;
            return refused.code;
        }
    }

    int run(int hours) {
        int before = takenByAll();
        change(some -> {
            for (int i = 0; i < hours; i++) {
                some.hour();
            }
        });
        return takenByAll() - before;
    }

    private int takenByAll() {
        int sum = 0;
        for (int part : day.taken) {
            sum += part;
        }
        return sum;
    }

    int force(int field) {
        change(some -> some.forced[field] = true);
        int sum = 0;
        for (boolean each : day.forced) {
            sum += each ? 1 : 0;
        }
        return sum;
    }

    int swapTurns(int one, int other) {
        change(some -> {
            int[] entry = some.rotation.get(one);
            some.rotation.set(one, some.rotation.get(other));
            some.rotation.set(other, entry);
        });
        return day.turnAt(day.clock);
    }

    int undo() {
        if (undoable == 0) {
            return -1;
        }
        changes.remove(changes.size() - 1);
        day = new Day();
        changes.forEach(change -> change.on(day));
        undoable--;
        return undoable;
    }

    int hoursUntil(int field, int limit) {
        Day ahead = day.copy();
        for (int hours = 0; hours <= limit; hours++) {
            if (ahead.water[field] >= ahead.setup.fields.get(field)[3]) {
                return hours;
            }
            ahead.hour();
        }
        return -1;
    }

    int expected(int canal, int hours, int forced) {
        Day ahead = day.copy();
        if (forced >= 0) {
            ahead.forced[forced] = true;
        }
        int sum = 0;
        for (int i = 0; i < hours; i++) {
            ahead.hour();
            sum += ahead.arrived[canal];
        }
        return sum;
    }

    int suspect(int canal, int hours, int amount) {
        if (expected(canal, hours, -1) == amount) {
            return -2;
        }
        for (int field = 0; field < day.setup.fields.size(); field++) {
            if (!day.forced[field] && expected(canal, hours, field) == amount) {
                return field;
            }
        }
        return -1;
    }

    int fairHours(int village, int hours) {
        long[] demands = new long[6];
        long all = 0;
        for (int[] field : day.setup.fields) {
            demands[field[1]] += field[3];
            all += field[3];
        }
        if (all == 0) {
            return 0;
        }
        long[] parts = new long[6];
        long[] remainders = new long[6];
        long left = hours;
        for (int i = 0; i < 6; i++) {
            parts[i] = hours * demands[i] / all;
            remainders[i] = hours * demands[i] % all;
            left -= parts[i];
        }
        while (left > 0) {
            int best = 0;
            for (int i = 1; i < 6; i++) {
                best = remainders[i] > remainders[best] ? i : best;
            }
            parts[best]++;
            remainders[best] = -1;
            left--;
        }
        return (int) parts[village];
    }
}

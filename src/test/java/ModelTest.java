/** Long runs of calls against Model, on texts that are made, and on such texts with a byte or a token spoilt. */
public final class ModelTest {
    private static final int SETUPS = 150;
    private static final int CALLS = 200;
    private static final int SPOILT = 30000;
    private static final String[] SPOILERS = {" ", ";", "0", "7", "99", "100", "10000", "51", "canal", "field", "turn", "guard",
        "inflow", "from", "share", "over", "hour", "day", "+", "-", "*", "/", "(", ")", "(((", "x", "\n", "\u00e9", "\u0000",
        "canal from 0 1 0 9;", "field 0 0 1 0 1 0;", "turn 1 1;", "guard 0 0 0 0 0 0 0 0 0 0 0;", "inflow hour-day*(turn);"};

    private long seed;

    private ModelTest(long seed) {
        this.seed = seed;
    }

    public static void main(String[] args) {
        for (int i = 0; i < SETUPS; i++) {
            new ModelTest(i).compareRuns();
        }
        new ModelTest(4711).compareLoads();
        Check.finish();
    }

    /** 0 to bound - 1, the same in every session. */
    private int pick(int bound) {
        seed = seed * 6364136223846793005L + 1442695040888963407L;
        return (int) ((seed >>> 33) % bound);
    }

    private int between(int least, int greatest) {
        return least + pick(greatest - least + 1);
    }

    private boolean chance(int percent) {
        return pick(100) < percent;
    }

    private String text() {
        StringBuilder text = new StringBuilder();
        int canals = between(1, chance(20) ? 16 : 6);
        for (int canal = 0; canal < canals; canal++) {
            text.append("canal ").append(canal == 0 ? "" : "from " + between(Math.max(0, canal - 3), canal - 1) + " ");
            text.append(between(1, 6)).append(' ').append(chance(50) ? between(0, 50) : 0).append(' ');
            text.append(chance(50) ? between(1, 300) : 9999);
            text.append(chance(60) ? " share " + (chance(25) ? 0 : between(0, 99)) : "").append(';');
        }
        int fields = chance(10) ? 0 : between(1, 12);
        for (int field = 0; field < fields && text.length() < 780; field++) {
            text.append("field ").append(pick(canals)).append(' ').append(pick(6)).append(' ').append(between(1, 60));
            text.append(' ').append(between(0, 150)).append(' ').append(between(1, 200)).append(' ').append(pick(12));
            text.append(field > 0 && chance(50) ? " over " + pick(field) : "").append(';');
        }
        int entries = chance(10) ? 0 : between(1, 12);
        for (int entry = 0; entry < entries && text.length() < 830; entry++) {
            text.append("turn ").append(pick(6)).append(' ').append(between(1, chance(10) ? 99 : 5)).append(';');
        }
        if (chance(70) && text.length() < 830) {
            text.append("guard");
            for (int stops = between(1, 10); stops > 0; stops--) {
                text.append(' ').append(pick(canals));
            }
            text.append(';');
        }
        if (chance(70) && text.length() < 860) {
            String sum = "inflow " + sum(0) + ";";
            text.append(text.length() + sum.length() <= 900 ? sum : "");
        }
        return text.toString();
    }

    private String sum(int depth) {
        StringBuilder sum = new StringBuilder(factor(depth));
        for (int i = pick(4); i > 0; i--) {
            sum.append("+-*/".charAt(pick(4))).append(factor(depth));
        }
        return sum.toString();
    }

    private String factor(int depth) {
        if (depth < 4 && chance(30)) {
            return "(" + sum(depth + 1) + ")";
        }
        String[] kinds = {"hour", "day", "turn", "" + pick(10000), "" + pick(300), "" + pick(9)};
        return kinds[pick(kinds.length)];
    }

    private void compareRuns() {
        IrrigationTurns real = new IrrigationTurns();
        Model model = new Model();
        load(real, model, text());
        for (int i = 0; i < CALLS; i++) {
            change(real, model);
            compareReadings(real, model);
            if (chance(15)) {
                compareForecasts(real, model);
            }
        }
    }

    private void load(IrrigationTurns real, Model model, String text) {
        Check.due("load \"" + text + "\"", Check.load(real, text), model.load(text));
        Check.due("errorOffset() of \"" + text + "\"", real.errorOffset(), model.errorOffset);
    }

    private void change(IrrigationTurns real, Model model) {
        int canals = model.day.setup.canals.size();
        int fields = model.day.setup.fields.size();
        int entries = model.day.rotation.size();
        int kind = pick(100);
        if (kind < 2) {
            load(real, model, text());
        } else if (kind < 4) {
            load(real, model, spoilt(text()));
        } else if (kind < 45 && canals > 0) {
            int hours = chance(5) ? between(1, 100) : between(1, 5);
            Check.due("run(" + hours + ")", real.run(hours), model.run(hours));
        } else if (kind < 70 && fields > 0) {
            int field = pick(fields);
            if (model.day.forced[field]) {
                Check.dueState("force(" + field + ")", () -> real.force(field));
            } else {
                Check.due("force(" + field + ")", real.force(field), model.force(field));
            }
        } else if (kind < 80 && entries > 0) {
            int one = pick(entries);
            int other = pick(entries);
            Check.due("swapTurns(" + one + ", " + other + ")", real.swapTurns(one, other), model.swapTurns(one, other));
        } else {
            for (int times = chance(10) ? 9 : 1; times > 0; times--) {
                Check.due("undo()", real.undo(), model.undo());
            }
        }
    }

    private void compareReadings(IrrigationTurns real, Model model) {
        Model.Day day = model.day;
        Check.due("clock()", real.clock(), day.clock);
        Check.due("cycleLength()", real.cycleLength(), day.cycle());
        Check.due("guardAt()", real.guardAt(), day.guardAt());
        Check.due("canalCount()", real.canalCount(), day.setup.canals.size());
        Check.due("fieldCount()", real.fieldCount(), day.setup.fields.size());
        Check.due("checksum()", real.checksum(), day.checksum());
        int hour = pick(chance(50) ? 300 : 100001);
        Check.due("turnAt(" + hour + ")", real.turnAt(hour), day.turnAt(hour));
        Check.due("inflow(" + hour + ")", real.inflow(hour), day.inflow(hour));
        for (int canal = 0; canal < day.setup.canals.size(); canal++) {
            Check.due("parent(" + canal + ")", real.parent(canal), day.setup.canals.get(canal)[0]);
            Check.due("arrived(" + canal + ")", real.arrived(canal), day.arrived[canal]);
            for (int hours = 0; hours < 6; hours++) {
                Check.due("waterIn(" + canal + ", " + hours + ")", real.waterIn(canal, hours), day.waterIn(canal, hours));
            }
        }
        for (int field = 0; field < day.setup.fields.size(); field++) {
            Check.due("water(" + field + ")", real.water(field), day.water[field]);
            Check.due("taken(" + field + ")", real.taken(field), day.taken[field]);
            Check.due("stolen(" + field + ")", real.stolen(field), day.stolen[field]);
            Check.due("isForced(" + field + ")", real.isForced(field), day.forced[field]);
            Check.due("isOpen(" + field + ")", real.isOpen(field), day.isOpen(field));
        }
        for (int i = 0; i < 6; i++) {
            Check.due("fines(" + i + ")", real.fines(i), day.fines[i]);
            Check.due("total(" + i + ")", real.total(i), day.total(i));
        }
        Check.dueBalance("after a change", real);
    }

    private void compareForecasts(IrrigationTurns real, Model model) {
        int canals = model.day.setup.canals.size();
        int fields = model.day.setup.fields.size();
        int hours = between(1, chance(80) ? 15 : 50);
        for (int village = 0; village < 6; village++) {
            int all = pick(1001);
            Check.due("fairHours(" + village + ", " + all + ")", real.fairHours(village, all), model.fairHours(village, all));
        }
        if (fields > 0) {
            int field = pick(fields);
            Check.due("hoursUntil(" + field + ", " + hours + ")", real.hoursUntil(field, hours),
                    model.hoursUntil(field, hours));
        }
        if (canals > 0) {
            int canal = pick(canals);
            Check.due("expected(" + canal + ", " + hours + ")", real.expected(canal, hours),
                    model.expected(canal, hours, -1));
            int amount = fields > 0 ? model.expected(canal, hours, pick(fields)) + (chance(10) ? 1 : 0) : pick(500);
            Check.due("suspect(" + canal + ", " + hours + ", " + amount + ")", real.suspect(canal, hours, amount),
                    model.suspect(canal, hours, amount));
        }
    }

    private String spoilt(String text) {
        int from = pick(text.length() + 1);
        int to = Math.min(text.length(), from + pick(4));
        String piece = chance(30) ? "" : SPOILERS[pick(SPOILERS.length)];
        String whole = text.substring(0, from) + piece + (chance(5) ? "" : text.substring(to));
        return whole.length() <= 900 ? whole : whole.substring(0, 900);
    }

    private void compareLoads() {
        for (int i = 0; i < SPOILT; i++) {
            load(new IrrigationTurns(), new Model(), chance(80) ? spoilt(text()) : spoilt(spoilt(text())));
        }
    }
}

/** Promises 23 to 25: hoursUntil, expected and suspect. */
public final class ForecastTest {
    private static final String VALLEY = "canal 1 0 9999;canal from 0 1 0 9999 share 3;canal from 0 2 10 9999 share 1;"
            + "field 1 0 20 60 90 1;field 2 1 30 50 90 0;field 2 2 30 10 90 5;turn 0 3;turn 1 2;";

    private ForecastTest() {
    }

    public static void main(String[] args) {
        untilDemand();
        untilFollowsTheGuard();
        sumsOfArrivals();
        suspects();
        forecastsChangeNothing();
        forecastsMatchRuns();
        wrongArguments();
        Check.finish();
    }

    private static void untilDemand() {
        IrrigationTurns x = Check.loaded("canal 1 0 9999;field 0 0 10 25 99 1;field 0 0 10 0 99 0;field 0 0 10 100 99 0;"
                + "turn 0 99;");
        Check.due("hoursUntil(1, 0): a demand of 0", x.hoursUntil(1, 0), 0);
        Check.due("hoursUntil(0, 3): 0, 9, 18 after 3 hours", x.hoursUntil(0, 3), -1);
        Check.due("hoursUntil(0, 4)", x.hoursUntil(0, 4), 4);
        Check.due("hoursUntil(0, 100)", x.hoursUntil(0, 100), 4);
        Check.due("hoursUntil(0, 0)", x.hoursUntil(0, 0), -1);
        Check.due("hoursUntil(2, 100): its bank is too low", x.hoursUntil(2, 100), -1);
        x.run(3);
        Check.due("hoursUntil(0, 1) after 3 hours", x.hoursUntil(0, 1), 1);
        x.run(1);
        Check.due("hoursUntil(0, 0) after 4 hours", x.hoursUntil(0, 0), 0);
        IrrigationTurns y = Check.loaded("canal 1 0 9999;field 0 0 1 99 99 0;turn 0 99;");
        Check.due("hoursUntil(0, 99)", y.hoursUntil(0, 99), -1);
        Check.due("hoursUntil(0, 100)", y.hoursUntil(0, 100), 100);
    }

    private static void untilFollowsTheGuard() {
        IrrigationTurns x = Check.loaded("canal 1 0 9999;canal from 0 1 0 9;field 0 0 10 20 99 0;guard 0 1 1 0;");
        x.force(0);
        Check.due("hoursUntil(0, 100): the guard comes in hour 2", x.hoursUntil(0, 100), 3);
        IrrigationTurns y = Check.loaded("canal 1 0 9999;canal from 0 1 0 9;field 0 0 10 20 99 0;guard 0 1 0;");
        y.force(0);
        Check.due("hoursUntil(0, 100): the guard comes in hour 1", y.hoursUntil(0, 100), -1);
        Check.due("guardAt() has not moved", y.guardAt(), 0);
        Check.due("isForced(0) still", y.isForced(0), true);
    }

    private static void sumsOfArrivals() {
        IrrigationTurns x = Check.loaded("canal 2 10 95;inflow hour*10;");
        Check.due("expected(0, 0)", x.expected(0, 0), 0);
        Check.due("expected(0, 2)", x.expected(0, 2), 0);
        Check.due("expected(0, 4): 0 and 10 enter, 1 is lost", x.expected(0, 4), 9);
        x.run(10);
        Check.due("expected(0, 1): 80 of hour 8", x.expected(0, 1), 72);
        Check.due("expected(0, 3): 80, 90 and 95 of 100", x.expected(0, 3), 72 + 81 + 86);
        Check.due("expected(0, 100)", x.expected(0, 100), 72 + 81 + 98 * 86);
        IrrigationTurns y = Check.loaded("canal 1 0 9999;inflow 9999;");
        y.run(1);
        Check.due("expected(0, 100) of the greatest inflow", y.expected(0, 100), 999900);
    }

    private static void suspects() {
        IrrigationTurns x = Check.loaded(VALLEY);
        x.run(1);
        Check.due("expected(2, 4)", x.expected(2, 4), 0);
        Check.due("suspect(2, 4, 0): as expected", x.suspect(2, 4, 0), -2);
        Check.due("suspect(2, 4, 46): two hours of 23; the fields 1 and 2 both, the smaller one", x.suspect(2, 4, 46), 1);
        Check.due("suspect(2, 4, 45)", x.suspect(2, 4, 45), -1);
        Check.due("suspect(2, 4, -1)", x.suspect(2, 4, -1), -1);
        Check.due("suspect(2, 4, MAX)", x.suspect(2, 4, Integer.MAX_VALUE), -1);
        x.force(1);
        Check.due("expected(2, 4) when 1 is forced", x.expected(2, 4), 46);
        Check.due("suspect(2, 4, 46)", x.suspect(2, 4, 46), -2);
        Check.due("suspect(2, 4, 0)", x.suspect(2, 4, 0), -1);
        IrrigationTurns y = Check.loaded("canal 1 0 9999;canal from 0 1 0 9999;field 0 0 10 0 9999 0;"
                + "field 0 1 10 0 9999 0;field 1 2 10 0 9999 0;field 0 3 10 0 9999 0;turn 2 99;");
        y.run(1);
        Check.due("expected(1, 2)", y.expected(1, 2), 100);
        Check.due("suspect(1, 2, 90): 0 is the smallest of 0, 1 and 3", y.suspect(1, 2, 90), 0);
        y.force(0);
        Check.due("suspect(1, 2, 80): 1 beside 0, which is forced", y.suspect(1, 2, 80), 1);
        Check.due("suspect(1, 2, 90)", y.suspect(1, 2, 90), -2);
        Check.due("suspect(1, 2, 100): field 2 changes nothing", y.suspect(1, 2, 100), -1);
        Check.due("suspect(1, 50, 80 * 49)", y.suspect(1, 50, 80 * 49), 1);
        Check.due("suspect(0, 1, 100)", y.suspect(0, 1, 100), -2);
    }

    private static void forecastsChangeNothing() {
        IrrigationTurns x = Check.loaded(VALLEY + "guard 2 1;");
        x.run(7);
        x.force(1);
        long before = x.checksum();
        long spilled = x.total(3);
        int arrived = x.arrived(1);
        x.hoursUntil(2, 100);
        x.expected(2, 100);
        x.suspect(2, 50, 1);
        x.fairHours(1, 100);
        Check.due("checksum()", x.checksum(), before);
        Check.due("total(3)", x.total(3), spilled);
        Check.due("arrived(1)", x.arrived(1), arrived);
        Check.due("isForced(0)", x.isForced(0), false);
        Check.due("clock()", x.clock(), 7);
        Check.due("undo(): they are no changes", x.undo(), 2);
    }

    private static void forecastsMatchRuns() {
        for (int hours = 1; hours <= 40; hours++) {
            IrrigationTurns x = Check.loaded(VALLEY + "guard 1 2 0;inflow 50+hour*3-turn*7;");
            x.run(3);
            x.force(2);
            int expected = x.expected(2, hours);
            int until = x.hoursUntil(2, hours);
            int sum = 0;
            int reached = -1;
            for (int i = 1; i <= hours; i++) {
                x.run(1);
                sum += x.arrived(2);
                reached = reached < 0 && x.water(2) >= 10 ? i : reached;
            }
            Check.due("expected(2, " + hours + ")", expected, sum);
            Check.due("hoursUntil(2, " + hours + ")", until, reached);
        }
    }

    private static void wrongArguments() {
        IrrigationTurns x = Check.loaded(VALLEY);
        for (int index : new int[] {-1, 3, Integer.MIN_VALUE, Integer.MAX_VALUE}) {
            Check.dueIndex("hoursUntil(" + index + ", 1)", () -> x.hoursUntil(index, 1));
            Check.dueIndex("hoursUntil(" + index + ", 101), the field first", () -> x.hoursUntil(index, 101));
            Check.dueIndex("expected(" + index + ", 1)", () -> x.expected(index, 1));
            Check.dueIndex("expected(" + index + ", -1), the canal first", () -> x.expected(index, -1));
            Check.dueIndex("suspect(" + index + ", 1, 0)", () -> x.suspect(index, 1, 0));
            Check.dueIndex("suspect(" + index + ", 0, 0), the canal first", () -> x.suspect(index, 0, 0));
        }
        for (int hours : new int[] {-1, 101, Integer.MIN_VALUE, Integer.MAX_VALUE}) {
            Check.dueArgument("hoursUntil(0, " + hours + ")", () -> x.hoursUntil(0, hours));
            Check.dueArgument("expected(0, " + hours + ")", () -> x.expected(0, hours));
        }
        for (int hours : new int[] {-1, 0, 51, Integer.MIN_VALUE, Integer.MAX_VALUE}) {
            Check.dueArgument("suspect(0, " + hours + ", 0)", () -> x.suspect(0, hours, 0));
        }
        Check.due("suspect(0, 50, 4900)", x.suspect(0, 50, 4900), -2);
    }
}

/** Promise 22: fairHours. */
public final class FairHoursTest {
    private FairHoursTest() {
    }

    public static void main(String[] args) {
        exactParts();
        greatestRemainders();
        equalRemainders();
        noDemand();
        greatNumbers();
        wrongArguments();
        Check.finish();
    }

    /** A field a village with a demand; 0 makes a field too. */
    private static IrrigationTurns withDemands(int... demands) {
        StringBuilder text = new StringBuilder("canal 1 0 9;");
        for (int village = 0; village < demands.length; village++) {
            text.append("field 0 ").append(village).append(" 1 ").append(demands[village]).append(" 1 0;");
        }
        return Check.loaded(text.toString());
    }

    private static void dueHours(IrrigationTurns x, int hours, int... want) {
        int sum = 0;
        for (int village = 0; village < 6; village++) {
            int due = village < want.length ? want[village] : 0;
            Check.due("fairHours(" + village + ", " + hours + ")", x.fairHours(village, hours), due);
            sum += due;
        }
        Check.due("the sum of the hours that are due", sum, hours);
    }

    private static void exactParts() {
        dueHours(withDemands(10, 20, 30, 0, 40), 10, 1, 2, 3, 0, 4);
        dueHours(withDemands(10, 20, 30, 0, 40), 0, 0, 0, 0, 0, 0);
        dueHours(withDemands(0, 0, 5), 1000, 0, 0, 1000);
        dueHours(withDemands(0, 1), 7, 0, 7);
        IrrigationTurns x = Check.loaded("canal 1 0 9;field 0 4 1 10 1 0;field 0 1 1 30 1 0;field 0 4 1 20 1 0;");
        dueHours(x, 4, 0, 2, 0, 0, 2);
    }

    private static void greatestRemainders() {
        dueHours(withDemands(50, 30, 21), 10, 5, 3, 2);
        dueHours(withDemands(10, 11, 12), 10, 3, 3, 4);
        dueHours(withDemands(1, 2, 3, 4, 5, 6), 10, 1, 1, 1, 2, 2, 3);
        dueHours(withDemands(97, 1, 1, 1), 99, 96, 1, 1, 1);
    }

    private static void equalRemainders() {
        dueHours(withDemands(1, 1, 1, 1, 1, 1), 4, 1, 1, 1, 1, 0, 0);
        dueHours(withDemands(1, 1, 1, 1, 1, 1), 11, 2, 2, 2, 2, 2, 1);
        dueHours(withDemands(0, 7, 7), 1, 0, 1, 0);
        dueHours(withDemands(5, 0, 5), 3, 2, 0, 1);
        dueHours(withDemands(40, 60), 13, 5, 8);
    }

    private static void noDemand() {
        for (int village = 0; village < 6; village++) {
            Check.due("fairHours without demands", withDemands(0, 0, 0).fairHours(village, 1000), 0);
        }
    }

    private static void greatNumbers() {
        IrrigationTurns x = Check.loaded("canal 1 0 9;" + "field 0 5 1 9999 1 0;".repeat(11) + "field 0 2 1 9998 1 0;");
        dueHours(x, 1000, 0, 0, 83, 0, 0, 917);
    }

    private static void wrongArguments() {
        IrrigationTurns x = withDemands(1, 2);
        for (int village : new int[] {-1, 6, Integer.MIN_VALUE, Integer.MAX_VALUE}) {
            Check.dueIndex("fairHours(" + village + ", 1)", () -> x.fairHours(village, 1));
            Check.dueIndex("fairHours(" + village + ", 1001), the village first", () -> x.fairHours(village, 1001));
        }
        for (int hours : new int[] {-1, 1001, Integer.MIN_VALUE, Integer.MAX_VALUE}) {
            Check.dueArgument("fairHours(0, " + hours + ")", () -> x.fairHours(0, hours));
        }
        Check.dueArgument("fairHours(0, 1001) without demands", () -> withDemands(0).fairHours(0, 1001));
    }
}

/** The boundary cases of fairHours, hoursUntil, expected and suspect (promises 22 to 25). */
final class ForecastBoundaries {
    private static final String CANAL = "canal 1 0 9999;";
    private static final String CHILD = "canal from 0 1 0 9999;";
    private static final String BROOK = CANAL + CHILD + "field 0 0 10 0 9999 0;field 0 1 10 0 9999 0;field 1 2 10 0 9999 0;"
            + "field 0 3 20 0 9999 0;turn 2 99;";
    private static final String NO_CANAL = "Throws `IndexOutOfBoundsException` if there is no such canal (checked first)";
    private static final String NO_FIELD = "Throws `IndexOutOfBoundsException` if there is no such field (checked first)";
    private static final String NO_VILLAGE = "Throws `IndexOutOfBoundsException` if there is no such village (checked first)";
    private static final String WRONG_HOURS = "Throws `IllegalArgumentException` if hours is out of range";

    private ForecastBoundaries() {
    }

    static void test(Sentences due) {
        fairHours(due);
        hoursUntil(due);
        expected(due);
        suspect(due);
    }

    private static void fairHours(Sentences due) {
        due.test(22, "Divides hours among the villages in proportion to the sums of the demands of their fields.",
                ForecastBoundaries::sumsOfDemands);
        due.test(22, "Each village first gets hours * (its sum) / (sum of all demands).", ForecastBoundaries::firstParts);
        due.test(22, "The hours that remain go, one each, to the villages with the greatest remainders of these divisions;",
                ForecastBoundaries::greatestRemainders);
        due.test(22, "of equal remainders the smaller village comes first.", ForecastBoundaries::equalRemainders);
        due.test(22, "- `village`: a village, 0 to 5", () -> {
            IrrigationTurns x = withDemands(1, 0, 0, 0, 0, 3);
            Check.due("fairHours(0, 4)", x.fairHours(0, 4), 1);
            Check.due("fairHours(5, 4)", x.fairHours(5, 4), 3);
            Check.dueIndexRange("fairHours(village, 4)", 6, village -> x.fairHours(village, 4));
        });
        due.test(22, "- `hours`: 0 to 1000", () -> {
            IrrigationTurns x = withDemands(1, 3);
            dueHours(x, 0, 0, 0);
            dueHours(x, 1, 0, 1);
            dueHours(x, 1000, 250, 750);
            Check.dueArgumentRange("fairHours(0, hours)", 0, 1000, hours -> x.fairHours(0, hours));
        });
        due.test(22, "Returns the hours of the village; 0 if all demands are 0.", ForecastBoundaries::noDemand);
        due.test(22, NO_VILLAGE, () -> {
            IrrigationTurns x = new IrrigationTurns();
            Check.dueIndexRange("fairHours(village, 1) of a new object", 6, village -> x.fairHours(village, 1));
            Check.dueIndex("fairHours(6, 1001)", () -> x.fairHours(6, 1001));
            Check.dueIndex("fairHours(-1, -1)", () -> x.fairHours(-1, -1));
        });
        due.test(22, WRONG_HOURS, () -> {
            Check.dueArgumentRange("fairHours(5, hours)", 0, 1000, hours -> withDemands(1, 2).fairHours(5, hours));
            Check.dueArgumentRange("fairHours(0, hours) of a new object", 0, 1000,
                    hours -> new IrrigationTurns().fairHours(0, hours));
        });
    }

    private static void hoursUntil(Sentences due) {
        due.test(23, "Predicts how many hours must be simulated until a field holds at least its demand.",
                ForecastBoundaries::atLeastDemand);
        due.test(23, "- `field`: index of a field", () -> dueFieldIndex(0));
        due.test(23, "- `limit`: 0 to 100", () -> {
            IrrigationTurns x = Check.loaded(CANAL + "field 0 0 1 99 999 0;field 0 0 1 100 999 0;turn 0 99;");
            Check.due("hoursUntil(0, 100)", x.hoursUntil(0, 100), 100);
            Check.due("hoursUntil(0, 0)", x.hoursUntil(0, 0), -1);
            Check.due("hoursUntil(1, 100): it would take 101 hours", x.hoursUntil(1, 100), -1);
            Check.dueArgumentRange("hoursUntil(0, limit)", 0, 100, limit -> x.hoursUntil(0, limit));
        });
        due.test(23, "Returns the smallest such number of hours, 0 to limit (0 if it holds its demand now);",
                ForecastBoundaries::smallestNumber);
        due.test(23, "-1 if limit hours are not enough.", ForecastBoundaries::notEnough);
        due.test(23, NO_FIELD, () -> {
            dueFieldIndex(100);
            IrrigationTurns x = Check.loaded(CANAL + "field 0 0 1 9 9 0;");
            Check.dueIndex("hoursUntil(1, 101)", () -> x.hoursUntil(1, 101));
            Check.dueIndex("hoursUntil(-1, -1)", () -> x.hoursUntil(-1, -1));
        });
        due.test(23, "Throws `IllegalArgumentException` if limit is out of range", () -> {
            IrrigationTurns x = Check.loaded(CANAL + "field 0 0 1 0 9 0;");
            Check.dueArgumentRange("hoursUntil(0, limit), its demand is 0", 0, 100, limit -> x.hoursUntil(0, limit));
        });
    }

    private static void expected(Sentences due) {
        due.test(24, "Predicts how much will arrive at the end of a canal.", ForecastBoundaries::arrivals);
        due.test(24, "- `canal`: index of a canal", () -> dueCanalIndex((x, canal) -> x.expected(canal, 1)));
        due.test(24, "- `hours`: 0 to 100", () -> {
            IrrigationTurns x = Check.loaded(CANAL);
            Check.due("expected(0, 0)", x.expected(0, 0), 0);
            Check.due("expected(0, 100)", x.expected(0, 100), 9900);
            Check.dueArgumentRange("expected(0, hours)", 0, 100, hours -> x.expected(0, hours));
        });
        due.test(24, "Returns the sum of what arrives at its end in so many hours, from the present one on.",
                ForecastBoundaries::fromThePresentHour);
        due.test(24, NO_CANAL, () -> {
            dueCanalIndex((x, canal) -> x.expected(canal, 0));
            dueCanalIndex((x, canal) -> x.expected(canal, 100));
            IrrigationTurns x = Check.loaded(CANAL);
            Check.dueIndex("expected(1, 101)", () -> x.expected(1, 101));
            Check.dueIndex("expected(-1, -1)", () -> x.expected(-1, -1));
        });
        due.test(24, WRONG_HOURS, () -> {
            IrrigationTurns x = Check.loaded(CANAL + CHILD);
            Check.dueArgumentRange("expected(1, hours)", 0, 100, hours -> x.expected(1, hours));
        });
    }

    private static void suspect(Sentences due) {
        due.test(25, "Finds a forced gate that explains a measured amount.", ForecastBoundaries::explainingGate);
        due.test(25, "- `canal`: index of a canal", () -> dueCanalIndex((x, canal) -> x.suspect(canal, 1, 0)));
        due.test(25, "- `hours`: 1 to 50", () -> {
            IrrigationTurns x = Check.loaded(CANAL);
            Check.due("suspect(0, 1, 0)", x.suspect(0, 1, 0), -2);
            Check.due("suspect(0, 50, 4900)", x.suspect(0, 50, 4900), -2);
            Check.due("suspect(0, 50, 4901)", x.suspect(0, 50, 4901), -1);
            Check.dueArgumentRange("suspect(0, hours, 0)", 1, 50, hours -> x.suspect(0, hours, 0));
        });
        due.test(25, "- `amount`: the sum that is measured at the end of the canal in so many hours, from the present one on",
                ForecastBoundaries::anyAmount);
        due.test(25, "Returns -2 if amount is expected(canal, hours);", ForecastBoundaries::asExpected);
        due.test(25, "otherwise the smallest field whose gate is not forced now and with which expected(canal, hours) would be "
                + "amount if its gate were forced now;", ForecastBoundaries::smallestField);
        due.test(25, "-1 if there is no such field.", ForecastBoundaries::noSuchField);
        due.test(25, NO_CANAL, () -> {
            dueCanalIndex((x, canal) -> x.suspect(canal, 50, -1));
            IrrigationTurns x = Check.loaded(CANAL);
            Check.dueIndex("suspect(1, 51, 0)", () -> x.suspect(1, 51, 0));
            Check.dueIndex("suspect(-1, 0, 0)", () -> x.suspect(-1, 0, 0));
        });
        due.test(25, WRONG_HOURS, () -> {
            IrrigationTurns x = Check.loaded(CANAL + CHILD + "field 1 0 1 0 9 0;");
            Check.dueArgumentRange("suspect(1, hours, 0)", 1, 50, hours -> x.suspect(1, hours, 0));
            Check.dueArgumentRange("suspect(1, hours, 7)", 1, 50, hours -> x.suspect(1, hours, 7));
        });
    }

    private interface IndexCall {
        void make(IrrigationTurns x, int index);
    }

    private static void dueCanalIndex(IndexCall call) {
        Check.dueIndex("canal 0 of a new object", () -> call.make(new IrrigationTurns(), 0));
        for (int count : new int[] {1, 2, 16}) {
            IrrigationTurns x = Check.loaded(CANAL + CHILD.repeat(count - 1));
            Check.dueIndexRange("canal of " + count, count, canal -> call.make(x, canal));
        }
    }

    private static void dueFieldIndex(int limit) {
        Check.dueIndex("hoursUntil(0, " + limit + ") of a new object", () -> new IrrigationTurns().hoursUntil(0, limit));
        IrrigationTurns none = Check.loaded(CANAL);
        Check.dueIndex("hoursUntil(0, " + limit + ") without fields", () -> none.hoursUntil(0, limit));
        for (int count : new int[] {1, 2, 12}) {
            IrrigationTurns x = Check.loaded(CANAL + "field 0 0 1 9 9 0;".repeat(count));
            Check.dueIndexRange("hoursUntil(field, " + limit + ") of " + count, count, field -> x.hoursUntil(field, limit));
        }
    }

    /** A field a village. */
    private static IrrigationTurns withDemands(int... demands) {
        StringBuilder text = new StringBuilder(CANAL);
        for (int village = 0; village < demands.length; village++) {
            text.append("field 0 ").append(village).append(" 1 ").append(demands[village]).append(" 1 0;");
        }
        return Check.loaded(text.toString());
    }

    private static void dueHours(IrrigationTurns x, int hours, int... want) {
        for (int village = 0; village < 6; village++) {
            Check.due("fairHours(" + village + ", " + hours + ")", x.fairHours(village, hours),
                    village < want.length ? want[village] : 0);
        }
    }

    private static void sumsOfDemands() {
        IrrigationTurns x = Check.loaded(CANAL + "field 0 5 1 1 1 0;field 0 0 1 3 1 0;field 0 5 1 2 1 0;field 0 5 1 0 1 0;");
        dueHours(x, 6, 3, 0, 0, 0, 0, 3);
        dueHours(x, 1000, 500, 0, 0, 0, 0, 500);
        IrrigationTurns great = Check.loaded(CANAL + "field 0 5 1 9999 1 0;".repeat(11) + "field 0 0 1 9999 1 0;");
        dueHours(great, 12, 1, 0, 0, 0, 0, 11);
        dueHours(great, 1000, 83, 0, 0, 0, 0, 917);
        dueHours(Check.loaded(CANAL + "field 0 3 1 9999 1 0;".repeat(12)), 1000, 0, 0, 0, 1000);
    }

    private static void firstParts() {
        dueHours(withDemands(1, 2, 3), 6, 1, 2, 3);
        dueHours(withDemands(1, 2, 3), 12, 2, 4, 6);
        dueHours(withDemands(1, 2, 3), 5, 1, 2, 2);
        dueHours(withDemands(1, 2, 3), 7, 1, 2, 4);
        dueHours(withDemands(0, 9999), 1000, 0, 1000);
        dueHours(withDemands(1, 9999), 1000, 0, 1000);
    }

    private static void greatestRemainders() {
        dueHours(withDemands(5, 3, 2), 1, 1, 0, 0);
        dueHours(withDemands(3, 5, 2), 1, 0, 1, 0);
        dueHours(withDemands(2, 3, 5), 1, 0, 0, 1);
        dueHours(withDemands(2, 3, 5), 2, 0, 1, 1);
        dueHours(withDemands(1, 1, 1, 1, 1, 5), 2, 1, 0, 0, 0, 0, 1);
        dueHours(withDemands(1, 1, 1, 1, 1, 1), 5, 1, 1, 1, 1, 1, 0);
        dueHours(withDemands(1, 1, 1, 1, 1, 1), 6, 1, 1, 1, 1, 1, 1);
        dueHours(withDemands(1, 2, 3, 4, 5, 6), 20, 1, 2, 3, 4, 5, 5);
        dueHours(withDemands(1, 2, 3, 4, 5, 6), 22, 1, 2, 3, 4, 5, 7);
    }

    private static void equalRemainders() {
        dueHours(withDemands(1, 1), 1, 1, 0);
        dueHours(withDemands(0, 1, 0, 1), 1, 0, 1, 0, 0);
        dueHours(withDemands(1, 1), 3, 2, 1);
        dueHours(withDemands(1, 1, 1), 1, 1, 0, 0);
        dueHours(withDemands(1, 1, 1), 2, 1, 1, 0);
        dueHours(withDemands(1, 1, 2), 2, 1, 0, 1);
        dueHours(withDemands(0, 0, 0, 0, 1, 1), 999, 0, 0, 0, 0, 500, 499);
    }

    private static void noDemand() {
        for (int hours : new int[] {0, 1, 1000}) {
            dueHours(new IrrigationTurns(), hours);
            dueHours(withDemands(0, 0, 0, 0, 0, 0), hours);
            dueHours(withDemands(0, 0, 0, 0, 0, 1), hours, 0, 0, 0, 0, 0, hours);
        }
    }

    private static void atLeastDemand() {
        IrrigationTurns x = Check.loaded(CANAL + "field 0 0 10 9 99 0;field 0 0 10 10 99 0;field 0 0 10 11 99 0;"
                + "field 0 0 10 10 99 1;field 0 0 10 20 19 0;turn 0 99;");
        Check.due("hoursUntil(0, 100): 10 is more than 9", x.hoursUntil(0, 100), 2);
        Check.due("hoursUntil(1, 100): 10 is as much as 10", x.hoursUntil(1, 100), 2);
        Check.due("hoursUntil(2, 100): 10 is less than 11", x.hoursUntil(2, 100), 3);
        Check.due("hoursUntil(3, 100): 9 is left of 10", x.hoursUntil(3, 100), 3);
        Check.due("hoursUntil(4, 100): its bank is below its demand", x.hoursUntil(4, 100), -1);
        Check.due("clock(): nothing was simulated", x.clock(), 0);
    }

    private static void smallestNumber() {
        IrrigationTurns x = Check.loaded(CANAL + "field 0 0 10 0 99 0;field 0 0 10 1 99 5;turn 0 2;turn 1 99;");
        Check.due("hoursUntil(0, 0): a demand of 0", x.hoursUntil(0, 0), 0);
        Check.due("hoursUntil(0, 100): a demand of 0", x.hoursUntil(0, 100), 0);
        Check.due("hoursUntil(1, 1)", x.hoursUntil(1, 1), -1);
        Check.due("hoursUntil(1, 2)", x.hoursUntil(1, 2), 2);
        Check.due("hoursUntil(1, 100): later it is dry again", x.hoursUntil(1, 100), 2);
        x.run(1);
        Check.due("hoursUntil(1, 1) an hour later", x.hoursUntil(1, 1), 1);
        x.run(1);
        Check.due("hoursUntil(1, 0) when it holds its demand", x.hoursUntil(1, 0), 0);
        Check.due("hoursUntil(1, 100) when it holds its demand", x.hoursUntil(1, 100), 0);
        x.run(1);
        Check.due("hoursUntil(1, 100) when it is dry, until its next turn", x.hoursUntil(1, 100), 99);
        Check.due("hoursUntil(1, 99)", x.hoursUntil(1, 99), 99);
        Check.due("hoursUntil(1, 98)", x.hoursUntil(1, 98), -1);
    }

    private static void notEnough() {
        IrrigationTurns x = Check.loaded(CANAL + "field 0 0 10 50 99 0;field 0 1 10 1 99 0;turn 0 99;");
        Check.due("hoursUntil(0, 5)", x.hoursUntil(0, 5), -1);
        Check.due("hoursUntil(0, 6)", x.hoursUntil(0, 6), 6);
        Check.due("hoursUntil(0, 7)", x.hoursUntil(0, 7), 6);
        Check.due("hoursUntil(0, 0)", x.hoursUntil(0, 0), -1);
        Check.due("hoursUntil(1, 100): its village has no turn by then", x.hoursUntil(1, 100), -1);
        IrrigationTurns none = Check.loaded(CANAL + "field 0 1 10 1 99 0;");
        Check.due("hoursUntil(0, 100) without a rotation", none.hoursUntil(0, 100), -1);
    }

    private static void arrivals() {
        IrrigationTurns x = Check.loaded("canal 6 0 9999;inflow hour+1;");
        int sum = 0;
        for (int hours = 0; hours <= 100; hours++) {
            Check.due("expected(0, " + hours + ")", x.expected(0, hours), sum);
            sum += Math.max(0, hours - 5);
        }
        IrrigationTurns great = Check.loaded("canal 1 0 9999;inflow 9999;");
        great.run(1);
        Check.due("expected(0, 100) of the greatest inflow", great.expected(0, 100), 999900);
        Check.due("clock(): nothing was simulated", great.clock(), 1);
    }

    private static void fromThePresentHour() {
        IrrigationTurns x = Check.loaded("canal 2 0 9999;inflow hour+1;");
        int[][] want = {{0, 0, 0, 1, 3}, {0, 0, 1, 3, 6}, {0, 1, 3, 6, 10}, {0, 2, 5, 9, 14}};
        for (int clock = 0; clock < want.length; clock++) {
            for (int hours = 0; hours < want[clock].length; hours++) {
                Check.due("expected(0, " + hours + ") at clock " + clock, x.expected(0, hours), want[clock][hours]);
            }
            x.run(1);
        }
    }

    /** A forced gate at canal 0 takes its intake away from what canal 1 gets. */
    private static void explainingGate() {
        IrrigationTurns x = Check.loaded(BROOK);
        x.run(1);
        Check.due("expected(1, 2)", x.expected(1, 2), 100);
        Check.due("suspect(1, 2, 100)", x.suspect(1, 2, 100), -2);
        Check.due("suspect(1, 2, 90)", x.suspect(1, 2, 90), 0);
        Check.due("suspect(1, 2, 80)", x.suspect(1, 2, 80), 3);
        Check.due("suspect(1, 2, 70)", x.suspect(1, 2, 70), -1);
        Check.due("isForced(3): nothing was forced", x.isForced(3), false);
        Check.due("clock(): nothing was simulated", x.clock(), 1);
        IrrigationTurns last = Check.loaded(CANAL + CHILD + "field 0 0 10 0 9999 0;".repeat(10) + "field 1 2 10 0 9999 0;"
                + "field 0 0 20 0 9999 0;turn 2 99;");
        last.run(1);
        Check.due("suspect(1, 2, 80): the field 11", last.suspect(1, 2, 80), 11);
    }

    private static void anyAmount() {
        IrrigationTurns x = Check.loaded("canal 1 0 9999;inflow 9999;");
        x.run(1);
        Check.due("suspect(0, 50, 499950)", x.suspect(0, 50, 499950), -2);
        Check.due("suspect(0, 50, 499949)", x.suspect(0, 50, 499949), -1);
        Check.due("suspect(0, 50, 499951)", x.suspect(0, 50, 499951), -1);
        for (int amount : new int[] {-1, -2, Integer.MIN_VALUE, Integer.MAX_VALUE}) {
            Check.due("suspect(0, 1, " + amount + ")", x.suspect(0, 1, amount), -1);
        }
        Check.due("suspect(0, 1, 9999): the present hour counts", x.suspect(0, 1, 9999), -2);
        Check.due("suspect(0, 2, 9999)", x.suspect(0, 2, 9999), -1);
    }

    private static void asExpected() {
        IrrigationTurns x = Check.loaded(BROOK);
        x.run(1);
        for (int hours = 1; hours <= 50; hours++) {
            int amount = x.expected(1, hours);
            Check.due("suspect(1, " + hours + ", " + amount + ")", x.suspect(1, hours, amount), -2);
            Check.due("suspect(1, " + hours + ", " + (amount + 1) + ")", x.suspect(1, hours, amount + 1), -1);
        }
        Check.due("suspect(0, 1, 100): the field 0 would explain it too", x.suspect(0, 1, 100), -2);
    }

    private static void smallestField() {
        IrrigationTurns x = Check.loaded(BROOK);
        x.run(1);
        Check.due("suspect(1, 2, 90): 0 comes before 1", x.suspect(1, 2, 90), 0);
        x.force(0);
        Check.due("suspect(1, 2, 90) when 0 is forced", x.suspect(1, 2, 90), -2);
        Check.due("suspect(1, 2, 80): 1 beside 0", x.suspect(1, 2, 80), 1);
        Check.due("suspect(1, 2, 70): 3 beside 0", x.suspect(1, 2, 70), 3);
        x.force(1);
        Check.due("suspect(1, 2, 70)", x.suspect(1, 2, 70), -1);
        IrrigationTurns guarded = Check.loaded(BROOK + "guard 1 0;");
        guarded.run(2);
        Check.due("suspect(1, 3, 290): the guard closes 0 after an hour", guarded.suspect(1, 3, 290), 0);
        Check.due("suspect(1, 3, 280)", guarded.suspect(1, 3, 280), 3);
        Check.due("suspect(1, 3, 270)", guarded.suspect(1, 3, 270), -1);
    }

    private static void noSuchField() {
        IrrigationTurns x = Check.loaded(BROOK);
        x.run(1);
        Check.due("suspect(1, 2, 89)", x.suspect(1, 2, 89), -1);
        Check.due("suspect(1, 2, 91)", x.suspect(1, 2, 91), -1);
        Check.due("suspect(1, 1, 90): nothing arrives yet", x.suspect(1, 1, 90), -1);
        x.force(0);
        x.force(1);
        x.force(2);
        x.force(3);
        Check.due("suspect(1, 2, 60) when all are forced", x.suspect(1, 2, 60), -2);
        Check.due("suspect(1, 2, 100) when all are forced", x.suspect(1, 2, 100), -1);
        Check.due("suspect(0, 1, 1) without fields", Check.loaded(CANAL).suspect(0, 1, 1), -1);
    }
}

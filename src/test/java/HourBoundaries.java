/** The boundary cases of canals, fields and of the steps of an hour (promise 26, seen by the promises 7 and 11 to 21). */
final class HourBoundaries {
    private static final String CANAL = "canal 1 0 9999;";
    private static final String CHILD = "canal from 0 1 0 9999;";

    private HourBoundaries() {
    }

    static void test(Sentences due) {
        canals(due);
        gates(due);
        water(due);
        fields(due);
        guard(due);
    }

    private static void canals(Sentences due) {
        due.test(26, "Division rounds down;", HourBoundaries::roundedDown);
        due.test(26, "Canal 0 is the source canal;", HourBoundaries::sourceCanal);
        due.test(26, "When an amount enters a canal, the part above the capacity is spilled first.", HourBoundaries::capacity);
        due.test(26, "Of the rest, loss percent (rounded down) are lost.", HourBoundaries::loss);
        due.test(26, "What remains arrives at the end of the canal as many hours later as its delay says.",
                HourBoundaries::delay);
        due.test(26, "(1) The inflow of this hour enters canal 0.", HourBoundaries::inflowOfThisHour);
        due.test(26, "(5) The clock increases by 1.", HourBoundaries::clockOfAnHour);
        due.test(26, "An amount that enters canal 0 or a child in step (1) or (2) arrives at the end in step (2) of the hour "
                + "whose number is greater by the delay.", HourBoundaries::hourOfArrival);
    }

    private static void gates(Sentences due) {
        due.test(15, "In each hour at most one village has the turn, and only the gates of its fields are open, unless a gate "
                + "is forced.", HourBoundaries::oneVillage);
        due.test(15, "The gate of a field is open in an hour if its village has the turn in this hour, or if the gate is "
                + "forced.", HourBoundaries::openGates);
        due.test(26, "A child is open if some field whose gate is open lies at the child or at a canal below it (a child of "
                + "it, a child of such a child, and so on).", HourBoundaries::openChildren);
    }

    private static void water(Sentences due) {
        due.test(26, "The fields at this canal whose gates are open, by increasing index, each take the smaller one of their "
                + "intake and what is left of A.", HourBoundaries::takeTheSmaller);
        due.test(26, "Then the rest of A is divided among the open children of the canal.", HourBoundaries::restForChildren);
        due.test(26, "If the sum of the shares of the open children is 0, or if there is no open child, the rest is spilled.",
                HourBoundaries::restSpilled);
        due.test(26, "Otherwise each open child gets rest * share / (sum of the shares of the open children), and what remains "
                + "because of the rounding goes to the open child with the smallest index among those whose share is not 0.",
                HourBoundaries::parts);
        due.test(26, "These amounts enter the children;", HourBoundaries::partsEnter);
        due.test(26, "the amount 0 enters each child that is not open.", HourBoundaries::nothingEnters);
    }

    private static void fields(Sentences due) {
        due.test(17, "and it holds an amount of water, 0 at first.", HourBoundaries::emptyAtFirst);
        due.test(26, "(3) The fields are treated by decreasing index.", HourBoundaries::decreasingIndex);
        due.test(26, "First, the seepage of the field, but at most its water, seeps away.", HourBoundaries::seepage);
        due.test(26, "Then, if the water is above the bank, the part above the bank leaves the field:", HourBoundaries::bank);
        due.test(26, "it goes to the field over which this field lies, or is spilled if there is none.",
                HourBoundaries::whereItGoes);
    }

    private static void guard(Sentences due) {
        due.test(26, "(4) If there is a guard, the guard goes to the next canal of the route (from the last one to the first "
                + "one) and closes all forced gates of the fields at this canal:", HourBoundaries::guardWalks);
        due.test(20, "they are not forced any more, and for each of them the fines of the field's village increase by 1.",
                HourBoundaries::finesForEach);
    }

    private static IrrigationTurns after(int hours, String text) {
        IrrigationTurns x = Check.loaded(text);
        x.run(hours);
        Check.dueBalance("of \"" + text + "\" after " + hours + " hours", x);
        return x;
    }

    private static void roundedDown() {
        String loss = "canal 1 1 9999;inflow ";
        Check.due("1 percent of 99", after(1, loss + "99;").total(4), 0);
        Check.due("1 percent of 100", after(1, loss + "100;").total(4), 1);
        Check.due("1 percent of 199", after(1, loss + "199;").total(4), 1);
        Check.due("1 percent of 200", after(1, loss + "200;").total(4), 2);
        String parts = CANAL + CHILD + "canal from 0 1 0 9999 share 2;field 1 0 1 0 9 0;field 2 0 1 0 9 0;turn 0 9;inflow ";
        Check.due("two thirds of 2", after(2, parts + "2;").waterIn(2, 0), 1);
        Check.due("two thirds of 3", after(2, parts + "3;").waterIn(2, 0), 2);
        Check.due("two thirds of 4", after(2, parts + "4;").waterIn(2, 0), 2);
    }

    private static void sourceCanal() {
        IrrigationTurns x = after(1, CANAL + CHILD + "field 1 0 1 0 9 0;turn 0 9;");
        Check.due("waterIn(0, 0)", x.waterIn(0, 0), 100);
        Check.due("waterIn(1, 0)", x.waterIn(1, 0), 0);
        Check.due("parent(0)", x.parent(0), -1);
        Check.due("parent(1)", x.parent(1), 0);
    }

    private static void dueEntry(int capacity, int loss, int inflow, int spilled, int lost) {
        IrrigationTurns x = after(1, "canal 1 " + loss + " " + capacity + ";inflow " + inflow + ";");
        String entry = inflow + " into a capacity of " + capacity + " with a loss of " + loss;
        Check.due("total(3) of " + entry, x.total(3), spilled);
        Check.due("total(4) of " + entry, x.total(4), lost);
        Check.due("waterIn(0, 0) of " + entry, x.waterIn(0, 0), inflow - spilled - lost);
    }

    private static void capacity() {
        dueEntry(100, 0, 99, 0, 0);
        dueEntry(100, 0, 100, 0, 0);
        dueEntry(100, 0, 101, 1, 0);
        dueEntry(1, 0, 0, 0, 0);
        dueEntry(1, 0, 1, 0, 0);
        dueEntry(1, 0, 2, 1, 0);
        dueEntry(9999, 0, 9999, 0, 0);
        dueEntry(9998, 0, 9999, 1, 0);
        dueEntry(50, 50, 50, 0, 25);
        dueEntry(50, 50, 51, 1, 25);
        dueEntry(50, 50, 100, 50, 25);
    }

    private static void loss() {
        dueEntry(9999, 50, 1, 0, 0);
        dueEntry(9999, 50, 2, 0, 1);
        dueEntry(9999, 50, 3, 0, 1);
        dueEntry(9999, 50, 9999, 0, 4999);
        dueEntry(9999, 1, 99, 0, 0);
        dueEntry(9999, 1, 100, 0, 1);
        dueEntry(9999, 49, 100, 0, 49);
        dueEntry(9999, 0, 9999, 0, 0);
        dueEntry(9999, 50, 0, 0, 0);
        dueEntry(99, 1, 100, 1, 0);
        dueEntry(100, 1, 101, 1, 1);
    }

    private static void delay() {
        for (int delay = 1; delay <= 6; delay++) {
            IrrigationTurns x = Check.loaded("canal " + delay + " 0 9999;inflow hour+1;");
            for (int hour = 0; hour < 20; hour++) {
                x.run(1);
                Check.due("arrived(0) in hour " + hour + " with a delay of " + delay, x.arrived(0),
                        hour < delay ? 0 : hour - delay + 1);
            }
        }
    }

    private static void inflowOfThisHour() {
        IrrigationTurns x = Check.loaded("canal 6 0 9999;inflow hour+1;");
        x.run(1);
        Check.due("total(0) after hour 0", x.total(0), 1);
        Check.due("waterIn(0, 5) after hour 0", x.waterIn(0, 5), 1);
        x.run(2);
        Check.due("total(0) after hour 2", x.total(0), 6);
        Check.due("waterIn(0, 5) after hour 2", x.waterIn(0, 5), 3);
        IrrigationTurns y = Check.loaded("canal 6 0 9999;inflow 10+turn;turn 0 2;turn 5 1;");
        y.run(2);
        Check.due("total(0) in the last hour of a turn", y.total(0), 20);
        y.run(1);
        Check.due("total(0) in the first hour of the next turn", y.total(0), 35);
        y.run(1);
        Check.due("total(0) in the first turn again", y.total(0), 45);
        IrrigationTurns z = Check.loaded("canal 1 0 9999;inflow 0;");
        z.run(1);
        Check.due("total(0) of an inflow of 0", z.total(0), 0);
    }

    private static void clockOfAnHour() {
        IrrigationTurns x = Check.loaded(CANAL + "turn 0 1;turn 1 1;");
        for (int hour = 0; hour < 10; hour++) {
            Check.due("clock() before hour " + hour, x.clock(), hour);
            x.run(1);
        }
        x.run(2);
        Check.due("clock() after 12 hours", x.clock(), 12);
    }

    /** 50 units enter in hour 0 and none later. */
    private static void hourOfArrival() {
        for (int delay = 1; delay <= 6; delay++) {
            IrrigationTurns x = Check.loaded(CANAL + "canal from 0 " + delay + " 0 9999;field 1 0 1 0 9 0;turn 0 9;"
                    + "inflow 1/(hour+1)*50;");
            for (int hour = 0; hour < 20; hour++) {
                x.run(1);
                Check.due("arrived(0) in hour " + hour, x.arrived(0), hour == 1 ? 50 : 0);
                Check.due("arrived(1) in hour " + hour + " with a delay of " + delay, x.arrived(1), hour == 1 + delay ? 50 : 0);
                Check.due("total(1) after hour " + hour, x.total(1), hour < 1 + delay ? 50 : 0);
            }
        }
    }

    private static void oneVillage() {
        StringBuilder text = new StringBuilder("canal 1 0 9;");
        for (int village = 0; village < 6; village++) {
            text.append("field 0 ").append(village).append(" 1 0 1 0;turn ").append(5 - village).append(" 1;");
        }
        IrrigationTurns x = Check.loaded(text.toString());
        for (int hour = 0; hour < 12; hour++) {
            for (int field = 0; field < 6; field++) {
                Check.due("isOpen(" + field + ") in hour " + hour, x.isOpen(field), field == 5 - hour % 6);
            }
            x.run(1);
        }
        x.force(0);
        Check.due("isOpen(0) when it is forced", x.isOpen(0), true);
        Check.due("isOpen(1) beside it", x.isOpen(1), false);
        Check.due("isOpen(5), its village has the turn", x.isOpen(5), true);
    }

    private static void openGates() {
        IrrigationTurns x = Check.loaded("canal 1 0 9;field 0 0 1 0 1 0;field 0 1 1 0 1 0;turn 0 2;turn 1 1;");
        boolean[] first = {true, true, false, true, true, false};
        for (int hour = 0; hour < first.length; hour++) {
            Check.due("isOpen(0) in hour " + hour, x.isOpen(0), first[hour]);
            Check.due("isOpen(1) in hour " + hour, x.isOpen(1), !first[hour]);
            x.run(1);
        }
        x.force(1);
        for (int hour = 6; hour < 12; hour++) {
            Check.due("isOpen(0) in hour " + hour, x.isOpen(0), first[hour - 6]);
            Check.due("isOpen(1), forced, in hour " + hour, x.isOpen(1), true);
            x.run(1);
        }
    }

    private static void openChildren() {
        StringBuilder text = new StringBuilder(CANAL);
        for (int canal = 1; canal < 16; canal++) {
            text.append("canal from ").append(canal - 1).append(" 1 0 9999;");
        }
        IrrigationTurns x = after(17, text + "field 15 0 100 0 9999 0;turn 0 99;");
        Check.due("arrived(15), fifteen canals below the source", x.arrived(15), 100);
        Check.due("total(3)", x.total(3), 0);
        IrrigationTurns y = after(17, text + "field 14 0 100 0 9999 0;turn 0 99;");
        Check.due("arrived(14), the field lies there", y.arrived(14), 100);
        Check.due("arrived(15), below the field", y.arrived(15), 0);
        IrrigationTurns closed = after(17, text + "field 15 0 100 0 9999 0;turn 1 99;");
        Check.due("arrived(1) while the gate is closed", closed.arrived(1), 0);
        Check.due("total(3) while the gate is closed", closed.total(3), 1600);
        String side = CANAL + CHILD + CHILD + "canal from 1 1 0 9999;field 3 0 1 0 9999 0;field 0 0 1 0 9999 0;turn 0 99;";
        IrrigationTurns z = after(3, side);
        Check.due("arrived(1), a grandchild has the field", z.arrived(1), 99);
        Check.due("arrived(2), no field lies there", z.arrived(2), 0);
        IrrigationTurns own = after(3, CANAL + CHILD + "field 0 0 1 0 9999 0;turn 0 99;");
        Check.due("arrived(1), the open field lies at the parent", own.arrived(1), 0);
        IrrigationTurns forced = Check.loaded(CANAL + CHILD + "field 1 0 1 0 9999 0;");
        forced.run(2);
        Check.due("waterIn(1, 0) before the gate is forced", forced.waterIn(1, 0), 0);
        forced.force(0);
        forced.run(1);
        Check.due("waterIn(1, 0) when the gate is forced", forced.waterIn(1, 0), 100);
    }

    private static void dueTaken(String fields, int... want) {
        IrrigationTurns x = after(2, CANAL + fields + "turn 0 99;");
        int sum = 0;
        for (int field = 0; field < want.length; field++) {
            Check.due("taken(" + field + ") of 100 by \"" + fields + "\"", x.taken(field), want[field]);
            sum += want[field];
        }
        Check.due("total(3) of 100 by \"" + fields + "\"", x.total(3), 100 - sum);
    }

    private static String intake(int amount) {
        return "field 0 0 " + amount + " 0 9999 0;";
    }

    private static void takeTheSmaller() {
        dueTaken(intake(99), 99);
        dueTaken(intake(100), 100);
        dueTaken(intake(101), 100);
        dueTaken(intake(1), 1);
        dueTaken(intake(999), 100);
        dueTaken(intake(60) + intake(39) + intake(2), 60, 39, 1);
        dueTaken(intake(60) + intake(40) + intake(1), 60, 40, 0);
        dueTaken(intake(60) + intake(41) + intake(1), 60, 40, 0);
        dueTaken(intake(1) + "field 0 1 50 0 9999 0;" + intake(100), 1, 0, 99);
        dueTaken(intake(8).repeat(12), 8, 8, 8, 8, 8, 8, 8, 8, 8, 8, 8, 8);
        dueTaken(intake(9).repeat(12), 9, 9, 9, 9, 9, 9, 9, 9, 9, 9, 9, 1);
    }

    private static void restForChildren() {
        int[] intakes = {1, 99, 100, 101};
        int[] rests = {99, 1, 0, 0};
        for (int i = 0; i < intakes.length; i++) {
            IrrigationTurns x = after(2, CANAL + CHILD + intake(intakes[i]) + "field 1 0 1 0 9999 0;turn 0 99;");
            Check.due("waterIn(1, 0) behind an intake of " + intakes[i], x.waterIn(1, 0), rests[i]);
            Check.due("total(3) behind an intake of " + intakes[i], x.total(3), 0);
        }
    }

    private static void restSpilled() {
        String two = "canal 1 0 9999;canal from 0 1 0 9999 share 0;canal from 0 1 0 9999 share ";
        String gates = ";field 1 0 1 0 9999 0;field 2 0 1 0 9999 0;turn 0 99;";
        IrrigationTurns none = after(2, two + 0 + gates);
        Check.due("total(3) when the sum of the shares is 0", none.total(3), 100);
        Check.due("waterIn(1, 0)", none.waterIn(1, 0), 0);
        Check.due("waterIn(2, 0)", none.waterIn(2, 0), 0);
        IrrigationTurns one = after(2, two + 1 + gates);
        Check.due("total(3) when the sum of the shares is 1", one.total(3), 0);
        Check.due("waterIn(1, 0), its share is 0", one.waterIn(1, 0), 0);
        Check.due("waterIn(2, 0), its share is 1", one.waterIn(2, 0), 100);
        IrrigationTurns closed = after(2, CANAL + "canal from 0 6 0 9999;field 1 0 1 0 9999 0;turn 1 1;turn 0 1;");
        Check.due("total(3) with an open child", closed.total(3), 0);
        closed.run(1);
        Check.due("total(3) without an open child", closed.total(3), 100);
        Check.due("total(3) without a child", after(2, CANAL + "turn 0 99;").total(3), 100);
        Check.due("total(3) when a closed child has a share", after(2, two + 1 + ";field 1 0 1 0 9 0;turn 0 9;").total(3), 100);
    }

    private static void dueParts(String shares, String villages, int inflow, int... want) {
        StringBuilder text = new StringBuilder("canal 1 0 9999;");
        for (String share : shares.split(" ")) {
            text.append("canal from 0 1 0 9999 share ").append(share).append(';');
        }
        int canal = 1;
        for (String village : villages.split(" ")) {
            text.append("field ").append(canal).append(' ').append(village).append(" 1 0 9 0;");
            canal++;
        }
        IrrigationTurns x = after(2, text + "turn 0 99;inflow " + inflow + ";");
        for (int i = 0; i < want.length; i++) {
            Check.due(inflow + " in shares of " + shares + " for " + villages + ": child " + i, x.waterIn(i + 1, 0), want[i]);
        }
    }

    private static void parts() {
        dueParts("1 1 1", "0 0 0", 99, 33, 33, 33);
        dueParts("1 1 1", "0 0 0", 100, 34, 33, 33);
        dueParts("1 1 1", "0 0 0", 101, 35, 33, 33);
        dueParts("1 1 1", "0 0 0", 102, 34, 34, 34);
        dueParts("0 1 1", "0 0 0", 100, 0, 50, 50);
        dueParts("0 1 1", "0 0 0", 101, 0, 51, 50);
        dueParts("1 1 1", "1 0 0", 101, 0, 51, 50);
        dueParts("0 0 1", "0 0 0", 101, 0, 0, 101);
        dueParts("1 0 1", "0 0 0", 101, 51, 0, 50);
        dueParts("99 99 99", "0 0 0", 2, 2, 0, 0);
        dueParts("99 99 99", "0 0 0", 9999, 3333, 3333, 3333);
        dueParts("1 99", "0 0", 99, 1, 98);
        dueParts("1 99", "0 0", 100, 1, 99);
        dueParts("1 99", "0 0", 1, 1, 0);
        dueParts("99 1", "0 0", 9999, 9900, 99);
    }

    private static void partsEnter() {
        String text = "canal 1 0 9999;canal from 0 1 0 9999;canal from 0 3 10 ";
        String gates = ";field 1 0 1 0 9999 0;field 2 0 1 0 9999 0;turn 0 99;";
        IrrigationTurns x = after(2, text + 50 + gates);
        Check.due("waterIn(2, 2): 50 into its capacity of 50", x.waterIn(2, 2), 45);
        Check.due("total(3)", x.total(3), 0);
        Check.due("total(4)", x.total(4), 5);
        IrrigationTurns y = after(2, text + 49 + gates);
        Check.due("waterIn(2, 2): 50 into its capacity of 49", y.waterIn(2, 2), 45);
        Check.due("total(3)", y.total(3), 1);
        Check.due("total(4)", y.total(4), 4);
        Check.due("waterIn(1, 0)", y.waterIn(1, 0), 50);
    }

    /** The child is open in the even hours; 20 hours go round its row more than twice. */
    private static void nothingEnters() {
        for (int delay = 1; delay <= 6; delay++) {
            IrrigationTurns x = Check.loaded("canal 1 0 9999;canal from 0 " + delay + " 0 9999;field 1 0 1 0 9999 0;"
                    + "turn 0 1;turn 1 1;");
            for (int hour = 0; hour < 20; hour++) {
                x.run(1);
                int entered = hour - delay;
                Check.due("arrived(1) in hour " + hour + " with a delay of " + delay, x.arrived(1),
                        entered >= 2 && entered % 2 == 0 ? 100 : 0);
                Check.due("waterIn(1, " + (delay - 1) + ") after hour " + hour, x.waterIn(1, delay - 1),
                        hour >= 2 && hour % 2 == 0 ? 100 : 0);
            }
        }
    }

    private static void emptyAtFirst() {
        IrrigationTurns x = Check.loaded(CANAL + intake(9).repeat(12) + "turn 0 99;");
        for (int field = 0; field < 12; field++) {
            Check.due("water(" + field + ") after the load", x.water(field), 0);
        }
        x.run(1);
        Check.due("water(0) in the hour before water arrives", x.water(0), 0);
        x.run(1);
        Check.due("water(0) when water has arrived", x.water(0), 9);
    }

    private static void decreasingIndex() {
        IrrigationTurns x = after(2, CANAL + "field 0 1 1 0 10 2;field 0 1 1 0 5 1 over 0;field 0 0 30 0 1 0 over 1;"
                + "turn 0 99;");
        Check.due("water(2) of 30 with a bank of 1", x.water(2), 1);
        Check.due("water(1) of 29, 1 seeps away, with a bank of 5", x.water(1), 5);
        Check.due("water(0) of 23, 2 seep away, with a bank of 10", x.water(0), 10);
        Check.due("total(3): 70 of the canal and 11 of field 0", x.total(3), 81);
        Check.due("total(5)", x.total(5), 3);
    }

    private static void seepage() {
        int[] intakes = {9, 10, 11};
        int[] waters = {0, 0, 1};
        int[] seeped = {9, 10, 10};
        for (int i = 0; i < intakes.length; i++) {
            IrrigationTurns x = after(2, CANAL + "field 0 0 " + intakes[i] + " 0 9999 10;turn 0 99;");
            Check.due("water(0) of " + intakes[i] + " less 10", x.water(0), waters[i]);
            Check.due("total(5)", x.total(5), seeped[i]);
        }
        Check.due("total(5) of a dry field", after(1, CANAL + "field 0 0 9 0 9 99;turn 0 99;").total(5), 0);
        Check.due("total(5) of a seepage of 0", after(9, CANAL + "field 0 0 9 0 9999 0;turn 0 99;").total(5), 0);
        IrrigationTurns y = after(2, CANAL + "field 0 1 1 0 99 0;field 0 0 11 0 10 1 over 0;turn 0 99;");
        Check.due("water(1): 11 less 1 is not above its bank of 10", y.water(1), 10);
        Check.due("water(0) below it", y.water(0), 0);
        IrrigationTurns z = after(2, CANAL + "field 0 1 1 0 99 0;field 0 0 12 0 10 1 over 0;turn 0 99;");
        Check.due("water(1): 12 less 1 is above its bank of 10", z.water(1), 10);
        Check.due("water(0) below it", z.water(0), 1);
    }

    private static void bank() {
        for (int bank : new int[] {1, 10, 99}) {
            for (int above = -1; above <= 1; above++) {
                int intake = Math.max(1, bank + above);
                IrrigationTurns x = after(2, CANAL + "field 0 1 1 0 9999 0;field 0 0 " + intake + " 0 " + bank
                        + " 0 over 0;turn 0 99;");
                Check.due("water(1) with a bank of " + bank, x.water(1), Math.min(bank, intake));
                Check.due("water(0) below a bank of " + bank, x.water(0), Math.max(0, above));
            }
        }
        IrrigationTurns great = Check.loaded("canal 1 0 9999;field 0 0 999 0 9999 0;turn 0 99;inflow 9999;");
        great.run(11);
        Check.due("water(0) after 10 hours of 999", great.water(0), 9990);
        great.run(1);
        Check.due("water(0) at its bank", great.water(0), 9999);
        Check.due("total(3): the rests of 11 hours and 990 above the bank", great.total(3), 11 * 9000 + 990);
    }

    private static void whereItGoes() {
        String upper = "field 0 0 11 0 10 0";
        IrrigationTurns over = after(2, CANAL + "field 0 1 1 0 9999 0;field 0 1 1 0 9999 0;" + upper + " over 0;turn 0 99;");
        Check.due("water(0), it lies below", over.water(0), 1);
        Check.due("water(1), it lies beside", over.water(1), 0);
        Check.due("total(3), the rest of the canal alone", over.total(3), 89);
        IrrigationTurns none = after(2, CANAL + "field 0 1 1 0 9999 0;field 0 1 1 0 9999 0;" + upper + ";turn 0 99;");
        Check.due("water(0), nothing lies over it", none.water(0), 0);
        Check.due("total(3), the rest and 1", none.total(3), 90);
        IrrigationTurns far = after(2, CANAL + "field 0 1 1 0 9999 0;".repeat(11) + upper + " over 10;turn 0 99;");
        Check.due("water(10), the neighbour below the last field", far.water(10), 1);
        Check.due("taken(10): it took nothing through its gate", far.taken(10), 0);
    }

    private static void guardWalks() {
        String ten = CANAL + CHILD.repeat(9);
        IrrigationTurns x = Check.loaded(ten + "guard 9 8 7 6 5 4 3 2 1 0;");
        for (int hour = 0; hour < 25; hour++) {
            Check.due("guardAt() before hour " + hour, x.guardAt(), 9 - hour % 10);
            x.run(1);
        }
        IrrigationTurns one = Check.loaded(ten + "field 5 0 1 0 1 0;field 4 0 1 0 1 0;guard 5;");
        one.force(0);
        one.force(1);
        one.run(1);
        Check.due("guardAt() of a route of one", one.guardAt(), 5);
        Check.due("isForced(0), where the guard stays", one.isForced(0), false);
        Check.due("isForced(1), where the guard never is", one.isForced(1), true);
        IrrigationTurns two = Check.loaded(ten + "field 0 0 1 0 1 0;field 1 0 1 0 1 0;guard 0 1;");
        two.force(0);
        two.force(1);
        two.run(1);
        Check.due("guardAt()", two.guardAt(), 1);
        Check.due("isForced(0), where the guard was at first", two.isForced(0), true);
        Check.due("isForced(1), where the guard goes", two.isForced(1), false);
        two.run(1);
        Check.due("guardAt(), from the last one to the first one", two.guardAt(), 0);
        Check.due("isForced(0)", two.isForced(0), false);
        IrrigationTurns none = Check.loaded(ten + "field 0 0 1 0 1 0;");
        none.force(0);
        none.run(30);
        Check.due("isForced(0) without a guard", none.isForced(0), true);
        Check.due("guardAt() without a guard", none.guardAt(), -1);
    }

    private static void finesForEach() {
        StringBuilder text = new StringBuilder(CANAL + CHILD);
        for (int field = 0; field < 12; field++) {
            text.append("field ").append(field == 11 ? 0 : 1).append(' ').append(field % 6).append(" 1 0 9 0;");
        }
        IrrigationTurns x = Check.loaded(text + "guard 0 1;");
        for (int field = 0; field < 12; field++) {
            x.force(field);
        }
        x.run(1);
        for (int field = 0; field < 12; field++) {
            Check.due("isForced(" + field + ")", x.isForced(field), field == 11);
        }
        for (int village = 0; village < 6; village++) {
            Check.due("fines(" + village + ")", x.fines(village), village == 5 ? 1 : 2);
        }
        x.run(1);
        Check.due("fines(5) after the next hour", x.fines(5), 2);
        Check.due("fines(0), not once more", x.fines(0), 2);
        IrrigationTurns open = Check.loaded(text + "guard 1;turn 3 9;");
        open.run(9);
        Check.due("fines(3) of a gate that is open but not forced", open.fines(3), 0);
        open.force(3);
        open.run(1);
        Check.due("fines(3) of a gate that is forced in its turn", open.fines(3), 1);
    }
}

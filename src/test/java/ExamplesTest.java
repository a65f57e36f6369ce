/** The four examples of the document, call by call. */
public final class ExamplesTest {
    private ExamplesTest() {
    }

    public static void main(String[] args) {
        example1();
        example2();
        example3();
        example4();
        Check.finish();
    }

    private static void example1() {
        IrrigationTurns x = new IrrigationTurns();
        Check.due("1: append", x.append(1667329633, 1814049056, 825237554, 808467299, 1634623852), 20);
        Check.due("1: append", x.append(543584879, 1830826016, 840970272, 909123699, 1751216741), 40);
        Check.due("1: append", x.append(540162915, 1634623852, 543584879, 1830826016, 824193056), 60);
        Check.due("1: append", x.append(892350523, 1718183276, 1679831328, 807416624, 540356640), 80);
        Check.due("1: append", x.append(875569205, 997487986, 1847603232, 842757237, 1919819825), 100);
        Check.due("1: append", x.append(540097312, 538976288, 538976288, 538976288, 538976288), 120);
        Check.due("1: load(103)", x.load(103), 6);
        Check.due("1: run(4)", x.run(4), 30);
        Check.due("1: water(0)", x.water(0), 25);
        Check.due("1: total(3)", x.total(3), 180);
        Check.due("1: arrived(1)", x.arrived(1), 60);
        Check.due("1: turnAt(2)", x.turnAt(2), 1);
    }

    private static void example2() {
        IrrigationTurns x = new IrrigationTurns();
        Check.due("2: append", x.append(1667329633, 1814062706, 1869422640, 540090416, 540359456), 20);
        Check.due("2: load(19)", x.load(19), IrrigationTurns.SYNTAX_ERROR);
        Check.due("2: errorOffset()", x.errorOffset(), 6);
    }

    private static void example3() {
        IrrigationTurns x = new IrrigationTurns();
        Check.due("3: append", x.append(1768842860, 1870078056, 1869967914, 825240948, 1970433578), 20);
        Check.due("3: append", x.append(1684109611, 925839419, 1953854062, 540221489, 991961120), 40);
        Check.due("3: load(37)", x.load(37), 2);
        Check.due("3: inflow(50)", x.inflow(50), 494);
        Check.due("3: inflow(5000)", x.inflow(5000), 9999);
        Check.dueState("3: run(1)", () -> x.run(1));
    }

    private static void example4() {
        IrrigationTurns x = new IrrigationTurns();
        Check.due("4: append", x.append(1667329633, 1814049056, 807417147, 1718183276, 1679831072), 20);
        Check.due("4: append", x.append(807416608, 958413088, 809202805, 1919819825, 540359527), 40);
        Check.due("4: append", x.append(1969320548, 540031776, 538976288, 538976288, 538976288), 60);
        Check.due("4: load(47)", x.load(47), 4);
        Check.due("4: force(0)", x.force(0), 1);
        Check.due("4: run(3)", x.run(3), 0);
        Check.due("4: stolen(0)", x.stolen(0), 0);
        Check.due("4: fines(0)", x.fines(0), 1);
        Check.due("4: undo()", x.undo(), 2);
    }
}

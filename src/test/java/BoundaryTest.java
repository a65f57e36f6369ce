import java.io.IOException;

/** Each sentence of the document that names a boundary case, with a test of its own, and that none was passed over. */
public final class BoundaryTest {
    private BoundaryTest() {
    }

    public static void main(String[] args) throws IOException {
        Sentences due = new Sentences();
        TextBoundaries.test(due);
        ErrorBoundaries.test(due);
        InflowBoundaries.test(due);
        HourBoundaries.test(due);
        ReadingBoundaries.test(due);
        ForecastBoundaries.test(due);
        ChangeBoundaries.test(due);
        others(due);
        due.dueAllQuoted();
        Check.finish();
    }

    /** What the other tests of the project show, or what can't be seen from outside. */
    private static void others(Sentences due) {
        due.namesNoBoundary(0,
                "A simulation of an irrigation system for rice fields in which villages take turns.",
                "Water flows from a source through a tree of canals to fields.",
                "It needs time and loses a part on its way.",
                "A guard walks from canal to canal and closes forced gates.",
                "The class simulates hour by hour, accounts for all water, divides hours among villages by exact "
                        + "fractions, and tells which forced gate explains a measured amount.",
                "Conventions: All numbers are integers.", "\"The present hour\" is the next one to be simulated;",
                "Amounts of water are in units.", "Canals:", "it is a child of its parent.",
                "Fields:", "A field lies at the end of a canal and belongs to a village.", "Turns:",
                "One hour is simulated in these steps:", "(2) The canals are treated by increasing index.",
                "Let A be the amount that arrives at the end of the canal in this hour.", "Inflow:", "Setup text:",
                "Its grammar is:", "Changes:", "The constants:",
                "The constructor and the methods follow, a promise each: the signature, then what it does.");
        due.namesNoBoundary(26, "Simulates hours.");
        due.namesNoBoundary(27, "Forces the gate of a field.");
        due.namesNoBoundary(30, "Computes a checksum.", "Returns the checksum.");
    }
}

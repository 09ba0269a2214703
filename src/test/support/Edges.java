import java.util.function.Supplier;

/** Tests sentence by sentence: each sentence of the document that names an edge has a test of its own. */
abstract class Edges {
    // The document's numbers, told once more: the class's own constants are under test.
    static final int NONE = -1, BAD = -2, FULL = -3, WALL = -11, LEAK = -12, NEEDLESS = -13, RUNS = -14, OWES = -15,
            DONE = -16, EARLY = -17, ROLE = -18, APART = -19, BOUND = -20, MOST = -21, STUCK = -22;

    /** Numbers that nothing on a desk has. */
    static final int[] FAR = {Integer.MIN_VALUE, -2, Integer.MAX_VALUE};

    private static String words;
    private static int sentences;
    private static int checks;
    private static int faults;

    static void sentence(String ofTheDocument, Runnable test) {
        words = ofTheDocument;
        sentences++;
        int before = checks;
        test.run();
        due(checks > before, () -> "nothing was tested");
    }

    static void due(boolean holds, Supplier<String> fault) {
        checks++;
        if (!holds) {
            faults++;
            System.out.println("\"" + words + "\": " + fault.get());
        }
    }

    static void end() {
        System.out.println(sentences + " sentences, " + checks + " checks, " + faults + " faults");
        if (faults != 0) {
            System.exit(1);
        }
    }

    /** Firms 0, 1, 4 of class 0, 2 of class 7, 3 open; object 0 of firm 4, object i + 1 of firm i. */
    static Trial firms() {
        return new Trial().does("firm(0)", "firm(0)", "firm(7)", "firm(-1)", "firm(0)",
                "object(4)", "object(0)", "object(1)", "object(2)", "object(3)");
    }

    /** The same, with user 3 who knows firm 0 and broke glass 0 for firm 1 at minute 0. */
    static Trial broken(int minutes) {
        return firms().does("read(3, 1)", "glass(3, 1, " + minutes + ")");
    }

    /** Kind 0 of so many tasks, each for role 0 and behind no other. */
    static Trial tasks(int n) {
        return new Trial().does("kind()").times(n, "task(0, 0, 0)");
    }
}

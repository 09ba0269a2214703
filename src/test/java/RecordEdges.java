/** The record, its links, and what is BAD or FULL on the whole: the edges of Terms, and of promises 21 to 24. */
public final class RecordEdges extends Edges {
    /** Behind the calls of fiveSorts(): sort, user, what, how, NOW of each entry. */
    private static final int[][] ENTRIES = {{1, 3, 1, 0, 0}, {2, 3, 1, 0, 2}, {3, 3, 0, 1, 2}, {1, 3, 2, 1, 5},
            {2, 3, 2, 1, 6}, {4, 2, 0, 0, 6}, {5, 4, 9, 0, 8}};

    public static void main(String[] args) {
        sentence("240 ENTRIES, from 0 on.", RecordEdges::entries);
        sentence("One for each OBJECT READ (sort 1) or WRITTEN (2), each GLASS (3), DUTY TAKEN OFF (4), TASK done (5)",
                RecordEdges::sorts);
        sentence("its sort, user, what (OBJECT; GLASS; GLASS; 8 times the CASE and the TASK), "
                + "how (1: by a GLASS; of 3 the FIRM; else 0), and NOW.", RecordEdges::parts);
        sentence("When it is full all these are refused (FULL, behind all others).", RecordEdges::full);
        sentence("Its LINK has 64 bits (which run over)", RecordEdges::linkRunsOver);
        sentence("x = (LINK of the one before, 1 for the first)", RecordEdges::linkBefore);
        sentence("BAD goes first: no such user, FIRM, CLASS, OBJECT, GLASS, KIND, TASK, CASE, number.",
                RecordEdges::badFirst);
        sentence("What is refused changes nothing.", RecordEdges::refusedInARow);
        sentence("Of an ENTRY: what = 0 sort, 1 user, 2 what, 3 how, 4 NOW then. BAD.", RecordEdges::entry);
        sentence("The LINK of an ENTRY; 0: there is none such.", RecordEdges::link);
        sentence("Somebody alters an ENTRY, as entry() tells it, but not its LINK: what it was.", RecordEdges::alters);
        sentence("BAD: there is none such, another what.", RecordEdges::alterBad);
        sentence("The first ENTRY whose LINK is not that which it, and the LINK before, give; NONE: all are good.",
                RecordEdges::check);
        end();
    }

    /** An entry of each sort; the readings and writings by the walls and by a glass. */
    private static Trial fiveSorts() {
        Trial x = firms().does("roles(2, 128)", "roles(4, 1)", "kind()", "task(0, 0, 0)", "task(0, 0, 0)");
        x.does("open(0)", "open(0)", "read(3, 1)", "tick(2)", "write(3, 1)", "glass(3, 1, 9)", "tick(3)");
        return x.does("read(3, 2)", "tick(1)", "write(3, 2)", "takeOff(0, 2)", "tick(2)", "perform(1, 1, 4)");
    }

    /** The document's link, told once more. */
    private static long linkOf(long before, int[] entry) {
        long x = before * -7046029254386353131L + entry[0];
        for (int i = 1; i <= 3; i++) {
            x = x ^ (x >>> 29);
            x = x * -4658895280553007687L + entry[i];
        }
        x = x ^ (x >>> 32);
        x = x * -7723592293110705685L + entry[4];
        return x ^ (x >>> 31);
    }

    private static Trial reads(int n) {
        return new Trial().does("firm(-1)", "object(0)").times(n, "read(0, 0)");
    }

    private static void entries() {
        Trial x = reads(0).refuses("entry(0, 0)", BAD).refuses("alter(0, 0, 1)", BAD).gives("link(0)", 0);
        x.times(239, "read(0, 0)").gives("count(6)", 239).gives("entry(238, 0)", 1);
        x.refuses("entry(239, 0)", BAD).refuses("alter(239, 0, 1)", BAD).gives("link(239)", 0);
        x.gives("write(11, 0)", 0).gives("count(6)", 240).gives("entry(239, 0)", 2).gives("entry(239, 1)", 11);
        x.gives("entry(238, 0)", 1).gives("entry(0, 0)", 1).gives("check()", NONE);
        Edges.due(x.ask(Call.of("link(239)")) != 0, () -> "the last entry has no link");
        x.refuses("entry(240, 0)", BAD).refuses("alter(240, 0, 1)", BAD).gives("link(240)", 0);
        x.refuses("read(0, 0)", FULL).refuses("write(0, 0)", FULL).gives("count(6)", 240);
        x.gives("alter(239, 4, 1)", 0).gives("check()", 239).gives("alter(0, 4, 1)", 0).gives("check()", 0);
    }

    private static void sorts() {
        Trial x = fiveSorts().gives("count(6)", 7);
        int[] sorts = {1, 2, 3, 1, 2, 4, 5};
        for (int i = 0; i < sorts.length; i++) {
            x.gives("entry(" + i + ", 0)", sorts[i]);
        }
        // All else, and all that is refused, leaves none.
        x.does("tick(1)", "roles(0, 3)", "firm(2)", "object(5)", "kind()", "task(1, 0, 0)", "task(1, 0, 0)");
        x.does("apart(1, 0, 1)", "bound(1, 0, 1)", "most(1, 3)", "open(1)").gives("alter(6, 3, 0)", 0);
        x.gives("canEnd(0)", 1).gives("doer(0, 0)", NONE).gives("told(3, 0)", 0).gives("glassTold(0, 0)", 3);
        x.gives("check()", NONE).gives("count(0)", 9).gives("count(6)", 7);
        x.refuses("read(3, 0)", WALL).refuses("write(3, 1)", LEAK).refuses("glass(3, 0, 1)", NEEDLESS);
        x.refuses("glass(3, 1, 1)", RUNS).refuses("takeOff(0, 2)", BAD).refuses("perform(1, 1, 4)", DONE);
        x.refuses("perform(0, 0, 5)", ROLE).gives("count(6)", 7);
    }

    private static void parts() {
        Trial x = fiveSorts();
        for (int i = 0; i < ENTRIES.length; i++) {
            for (int what = 0; what <= 4; what++) {
                x.gives("entry(" + i + ", " + what + ")", ENTRIES[i][what]);
            }
        }
        // The lowest, and the highest, of all that may stand in an entry.
        Trial low = firms().does("read(0, 0)", "glass(0, 0, 1)", "read(0, 1)", "glass(0, 1, 1)", "roles(1, 128)");
        low.does("takeOff(1, 1)");
        int[][] lows = {{1, 0, 0, 0, 0}, {3, 0, 0, 0, 0}, {1, 0, 1, 1, 0}, {3, 0, 1, 1, 0}, {4, 1, 1, 0, 0}};
        Trial high = new Trial().times(22, "firm(-1)").does("firm(7)", "firm(7)", "object(23)").times(46, "object(0)");
        high.does("object(22)", "kind()").times(6, "task(0, 7, 0)").times(16, "open(0)").does("roles(11, 255)");
        high.times(100, "tick(1000)").does("perform(5, 15, 11)", "read(11, 47)", "glass(11, 23, 100)", "write(11, 0)");
        int[][] highs = {{5, 11, 125, 0, 100000}, {1, 11, 47, 0, 100000}, {3, 11, 0, 23, 100000},
                {2, 11, 0, 1, 100000}};
        for (int what = 0; what <= 4; what++) {
            for (int i = 0; i < lows.length; i++) {
                low.gives("entry(" + i + ", " + what + ")", lows[i][what]);
            }
            for (int i = 0; i < highs.length; i++) {
                high.gives("entry(" + i + ", " + what + ")", highs[i][what]);
            }
        }
        linksOf(low, lows);
        linksOf(high, highs);
    }

    private static void linksOf(Trial x, int[][] entries) {
        long before = 1;
        for (int i = 0; i < entries.length; i++) {
            before = linkOf(before, entries[i]);
            x.gives("link(" + i + ")", before);
        }
        x.gives("check()", NONE);
    }

    private static void full() {
        String[] last = {"read(3, 1)", "write(3, 1)", "read(3, 2)", "write(3, 2)", "glass(3, 4, 1)", "takeOff(0, 2)",
                "perform(0, 0, 4)"};
        for (String call : last) {
            Trial x = broken(9).does("roles(2, 128)", "roles(4, 1)", "kind()", "task(0, 0, 0)", "task(0, 0, 0)", "open(0)");
            x.times(236, "read(0, 4)").does(call).gives("count(6)", 239).does("read(0, 4)").gives("count(6)", 240);
        }
        for (String call : last) {
            Trial x = broken(9).does("roles(2, 128)", "roles(4, 1)", "kind()", "task(0, 0, 0)", "task(0, 0, 0)", "open(0)");
            x.times(237, "read(0, 4)").does(call).gives("count(6)", 240).refuses("read(0, 4)", FULL);
            x.gives("entry(239, 0)", call.startsWith("r") ? 1 : call.startsWith("w") ? 2 : call.startsWith("g") ? 3
                    : call.startsWith("t") ? 4 : 5);
        }
        Trial x = broken(9).does("roles(2, 128)", "roles(4, 1)", "kind()", "task(0, 0, 0)", "task(0, 0, 0)", "open(0)");
        x.times(238, "read(0, 4)").gives("count(6)", 240);
        for (String call : last) {
            x.refuses(call, FULL);
        }
        x.refuses("read(3, 0)", WALL).refuses("write(3, 0)", WALL).refuses("write(3, 3)", LEAK);
        x.refuses("glass(3, 0, 1)", NEEDLESS).refuses("glass(3, 1, 1)", RUNS).refuses("takeOff(0, 1)", ROLE);
        x.refuses("perform(0, 0, 5)", ROLE).refuses("read(12, 0)", BAD).refuses("takeOff(1, 2)", BAD);
        // All else goes on.
        x.gives("firm(0)", 5).gives("object(5)", 5).gives("kind()", 1).gives("task(1, 0, 0)", 0).gives("open(1)", 1);
        x.gives("roles(3, 1)", 0).gives("tick(9)", 9).gives("alter(239, 1, 1)", 0).gives("check()", 239);
        x.gives("canEnd(0)", 1).gives("told(3, 3)", 1);
    }

    private static void linkRunsOver() {
        Trial x = fiveSorts();
        linksOf(x, ENTRIES);
        // Told by the document's tests, so that the formula above is under test, too.
        new Trial().does("firm(0)", "object(0)", "read(0, 0)").gives("link(0)", 1614525830286039172L);
        Trial many = reads(240);
        long before = 1;
        for (int i = 0; i < 240; i++) {
            before = linkOf(before, new int[] {1, 0, 0, 0, 0});
            many.gives("link(" + i + ")", before);
        }
    }

    private static void linkBefore() {
        Trial x = reads(1).gives("link(0)", linkOf(1, new int[] {1, 0, 0, 0, 0}));
        long first = linkOf(1, new int[] {1, 0, 0, 0, 0});
        x.does("read(0, 0)").gives("link(1)", linkOf(first, new int[] {1, 0, 0, 0, 0}));
        // What is altered keeps its link, and the next one hangs on that.
        Trial altered = reads(1).gives("alter(0, 1, 9)", 0).does("read(0, 0)");
        altered.gives("link(0)", first).gives("link(1)", linkOf(first, new int[] {1, 0, 0, 0, 0}));
        // A call that was refused leaves no gap in the chain.
        Trial refused = reads(1).refuses("read(0, 1)", BAD).does("write(0, 0)");
        refused.gives("link(1)", linkOf(first, new int[] {2, 0, 0, 0, 0}));
    }

    private static void badFirst() {
        Trial x = broken(1).does("roles(3, 128)", "kind()", "task(0, 0, 0)", "task(0, 0, 1)", "open(0)", "firm(0)");
        x.does("kind()", "tick(101)", "read(0, 2)");
        // Each would be refused otherwise, too: behind BAD stands what the right number would answer.
        x.refuses("read(3, 2)", WALL).refuses("read(3, 5)", BAD).refuses("read(12, 2)", BAD);
        x.refuses("write(3, 3)", LEAK).refuses("write(3, 5)", BAD).refuses("write(12, 3)", BAD);
        x.refuses("glass(3, 0, 1)", NEEDLESS).refuses("glass(3, 0, 101)", BAD).refuses("glass(3, 6, 1)", BAD);
        x.refuses("glass(3, 1, 1)", OWES).refuses("glass(3, 1, 101)", BAD).refuses("glass(12, 1, 1)", BAD);
        x.does("glass(0, 0, 5)").refuses("glass(0, 0, 1)", RUNS).refuses("glass(0, 0, 0)", BAD);
        x.refuses("takeOff(0, 3)", APART).refuses("takeOff(2, 3)", BAD).refuses("takeOff(0, 1)", ROLE);
        x.refuses("takeOff(2, 1)", BAD).refuses("takeOff(0, 12)", BAD).refuses("takeOff(-1, 3)", BAD);
        x.refuses("perform(1, 0, 0)", EARLY).refuses("perform(2, 0, 0)", BAD).refuses("perform(1, 1, 0)", BAD);
        x.refuses("perform(1, 0, 12)", BAD).refuses("perform(0, 0, 0)", ROLE).refuses("perform(0, 0, -1)", BAD);
        // BAD before FULL where the document's lists are full.
        x.times(99, "tick(1000)").does("tick(899)").gives("count(0)", 100000);
        x.refuses("tick(1)", FULL).refuses("tick(0)", BAD).refuses("tick(1001)", BAD);
        x.times(18, "firm(0)").refuses("firm(0)", FULL).refuses("firm(8)", BAD).refuses("firm(-2)", BAD);
        x.times(43, "object(0)").refuses("object(0)", FULL).refuses("object(24)", BAD).refuses("object(-1)", BAD);
        x.times(6, "task(1, 0, 0)").refuses("task(1, 0, 0)", FULL).refuses("task(1, 8, 0)", BAD);
        x.refuses("task(1, 0, 64)", BAD).refuses("task(2, 0, 0)", BAD).refuses("task(0, 0, 0)", BAD);
        x.does("kind()", "kind()").times(15, "open(0)").refuses("open(0)", FULL).refuses("open(2)", BAD);
        x.refuses("open(4)", BAD).refuses("open(-1)", BAD);
    }

    private static void refusedInARow() {
        // All refusals there are, one behind the other on one desk, each held against a desk that had none.
        Trial x = broken(50).does("read(3, 3)", "read(3, 2)", "glass(3, 4, 1)", "firm(0)", "firm(0)", "glass(3, 5, 60)");
        x.does("kind()", "task(0, 0, 0)", "task(0, 1, 1)", "task(0, 0, 0)", "task(0, 0, 0)", "task(0, 0, 0)");
        x.does("apart(0, 0, 3)", "bound(0, 2, 4)", "apart(0, 1, 3)", "most(0, 2)", "open(0)", "kind()", "tick(30)");
        x.does("roles(0, 1)", "roles(1, 3)", "roles(2, 1)", "roles(3, 128)", "perform(2, 0, 0)");
        String[] calls = {"read(3, 0)", "write(3, 0)", "write(3, 1)", "write(3, 4)", "glass(3, 0, 1)", "glass(3, 1, 1)",
                "glass(3, 6, 1)", "takeOff(0, 0)", "takeOff(0, 3)", "perform(2, 0, 1)", "perform(1, 0, 1)",
                "perform(0, 0, 3)", "perform(4, 0, 2)", "perform(0, 0, 0)", "open(1)", "most(0, 1)",
                "apart(0, 0, 1)", "bound(0, 0, 1)", "task(0, 0, 0)", "tick(0)", "firm(8)", "object(7)",
                "roles(0, 256)", "alter(0, 5, 1)"};
        int[] due = {WALL, WALL, LEAK, LEAK, NEEDLESS, RUNS, OWES, ROLE, APART, DONE, EARLY, ROLE, BOUND, STUCK, BAD,
                BAD, BAD, BAD, BAD, BAD, BAD, BAD, BAD, BAD};
        for (int round = 0; round < 2; round++) {
            for (int i = 0; i < calls.length; i++) {
                x.refuses(calls[i], due[i]);
            }
        }
        x.gives("perform(0, 0, 1)", 3).refuses("perform(3, 0, 1)", APART).gives("perform(4, 0, 0)", 2);
        x.refuses("perform(3, 0, 0)", MOST).refuses("perform(1, 0, 0)", ROLE);
    }

    private static void entry() {
        Trial x = fiveSorts();
        for (int i : new int[] {0, 6}) {
            for (int what = 0; what <= 4; what++) {
                x.gives("entry(" + i + ", " + what + ")", ENTRIES[i][what]);
            }
            x.refuses("entry(" + i + ", -1)", BAD).refuses("entry(" + i + ", 5)", BAD);
            x.refuses("entry(" + i + ", 6)", BAD).refuses("entry(" + i + ", -5)", BAD);
        }
        for (int what = -1; what <= 5; what++) {
            x.refuses("entry(-1, " + what + ")", BAD).refuses("entry(7, " + what + ")", BAD);
        }
        for (int far : FAR) {
            x.refuses("entry(" + far + ", 0)", BAD).refuses("entry(0, " + far + ")", BAD);
        }
        // 858993460 fives are 4 when they run over.
        x.refuses("entry(858993460, 0)", BAD);
    }

    private static void link() {
        Trial x = fiveSorts().gives("link(-1)", 0).gives("link(7)", 0).gives("link(8)", 0).gives("link(239)", 0);
        x.gives("link(240)", 0);
        for (int far : FAR) {
            x.gives("link(" + far + ")", 0);
        }
        for (int i = 0; i < 7; i++) {
            int at = i;
            Edges.due(x.ask(Call.of("link(" + i + ")")) != 0, () -> "entry " + at + " has no link");
        }
        x.does("read(3, 4)").gives("link(8)", 0);
        Edges.due(x.ask(Call.of("link(7)")) != 0, () -> "entry 7 has no link");
    }

    private static void alters() {
        for (int i : new int[] {0, 6}) {
            for (int what = 0; what <= 4; what++) {
                Trial x = fiveSorts();
                int was = ENTRIES[i][what];
                for (int v : new int[] {was + 1, -1, 0, Integer.MIN_VALUE, Integer.MAX_VALUE, was}) {
                    x.gives("alter(" + i + ", " + what + ", " + v + ")", was);
                    x.gives("entry(" + i + ", " + what + ")", v);
                    was = v;
                }
                for (int other = 0; other < ENTRIES.length; other++) {
                    for (int part = 0; part <= 4; part++) {
                        x.gives("entry(" + other + ", " + part + ")", ENTRIES[other][part]);
                    }
                }
                linksOf(x, ENTRIES);
            }
        }
        // The record is altered, and nothing of what it tells of.
        Trial x = fiveSorts().gives("alter(3, 3, 0)", 1).gives("alter(0, 1, 0)", 3).gives("alter(6, 1, 0)", 4);
        x.gives("alter(5, 2, 3)", 0).gives("alter(2, 4, 77)", 2).gives("told(3, 1)", 1).gives("told(3, 2)", 2);
        x.gives("told(0, 1)", 0).gives("doer(1, 1)", 4).gives("glassTold(0, 4)", 0).gives("glassTold(0, 2)", 11);
        x.gives("count(0)", 8).gives("count(6)", 7).refuses("read(3, 0)", WALL);
    }

    private static void alterBad() {
        Trial x = fiveSorts();
        for (int i : new int[] {0, 6}) {
            x.refuses("alter(" + i + ", -1, 1)", BAD).refuses("alter(" + i + ", 5, 1)", BAD);
            x.refuses("alter(" + i + ", 6, 1)", BAD).refuses("alter(" + i + ", -5, 1)", BAD);
        }
        for (int what = -1; what <= 5; what++) {
            x.refuses("alter(-1, " + what + ", 7)", BAD).refuses("alter(7, " + what + ", 7)", BAD);
        }
        for (int far : FAR) {
            x.refuses("alter(" + far + ", 0, 7)", BAD).refuses("alter(0, " + far + ", 7)", BAD);
        }
        x.refuses("alter(858993460, 0, 7)", BAD);
    }

    private static void check() {
        new Trial().gives("check()", NONE);
        reads(1).gives("check()", NONE).gives("alter(0, 0, 2)", 1).gives("check()", 0);
        for (int i = 0; i < ENTRIES.length; i++) {
            for (int what = 0; what <= 4; what++) {
                Trial x = fiveSorts().gives("check()", NONE);
                x.gives("alter(" + i + ", " + what + ", " + (ENTRIES[i][what] + 1) + ")", ENTRIES[i][what]);
                x.gives("check()", i).gives("alter(6, 1, 9)", i == 6 && what == 1 ? 5 : 4).gives("check()", i);
                x.does("read(3, 4)").gives("check()", i);
                x.gives("alter(" + i + ", " + what + ", " + ENTRIES[i][what] + ")",
                        i == 6 && what == 1 ? 9 : ENTRIES[i][what] + 1);
                x.gives("check()", i == 6 && what == 1 ? NONE : 6).gives("alter(6, 1, 4)", i == 6 && what == 1 ? 4 : 9);
                x.gives("check()", NONE);
            }
        }
        Trial full = reads(240).gives("check()", NONE).gives("alter(239, 3, 1)", 0).gives("check()", 239);
        full.gives("alter(238, 3, 1)", 0).gives("check()", 238).gives("alter(0, 3, 1)", 0).gives("check()", 0);
        full.gives("alter(0, 3, 0)", 1).gives("alter(238, 3, 0)", 1).gives("check()", 239);
        full.gives("alter(239, 3, 0)", 1).gives("check()", NONE);
        // The same number put in again alters nothing.
        reads(2).gives("alter(1, 0, 1)", 1).gives("check()", NONE);
    }
}

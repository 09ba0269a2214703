/** Glasses and their duties: the edges of Terms, and of promises 8, 9 and 20. */
public final class GlassEdges extends Edges {
    public static void main(String[] args) {
        sentence("GLASSES, 40 in all, numbered from 0 on.", GlassEdges::fortyInAll);
        sentence("BROKEN by a user for a FIRM, it runs for 1 .. 100 minutes", GlassEdges::minutes);
        sentence("as long as NOW is less than that minute and these.", GlassEdges::runsAsLongAs);
        sentence("It leaves a DUTY, open till it is TAKEN OFF", GlassEdges::leavesDuty);
        sentence("it is due 100 minutes behind its end.", GlassEdges::dueMinute);
        sentence("NEEDLESS: walls alone would grant reading an OBJECT of that FIRM", GlassEdges::needless);
        sentence("RUNS: one of his for that FIRM runs", GlassEdges::runs);
        sentence("OWES: he has three open DUTIES", GlassEdges::owesThree);
        sentence("or one for which NOW is its due minute or further.", GlassEdges::owesOneDue);
        sentence("Refused, the first that is so: NEEDLESS; RUNS; OWES", GlassEdges::orderOfRefusals);
        sentence("A GLASS is BROKEN: its number. BAD; NEEDLESS; RUNS; OWES; FULL: 40, or THE RECORD.",
                GlassEdges::glassFull);
        sentence("TAKEN OFF: by a SUPERVISOR", GlassEdges::bySupervisor);
        sentence("bit 7 is a SUPERVISOR.", GlassEdges::bitSeven);
        sentence("who is not that user.", GlassEdges::notThatUser);
        sentence("A DUTY is TAKEN OFF by a user: the minutes until it would be due (0 at least).",
                GlassEdges::minutesUntilDue);
        sentence("BAD: also if it is not open", GlassEdges::notOpen);
        sentence("ROLE: he is no SUPERVISOR; APART: it is his own; FULL.", GlassEdges::takeOffOrder);
        sentence("Of a GLASS: what = 0 user, 1 FIRM, 2 the minute of its end, 3 whether it runs, "
                + "4 whether its DUTY is open (1 or 0). BAD.", GlassEdges::glassTold);
        end();
    }

    private static void fortyInAll() {
        Trial x = firms().does("read(3, 1)", "roles(2, 128)");
        x.refuses("glassTold(0, 0)", BAD).refuses("takeOff(0, 2)", BAD);
        for (int i = 0; i < 39; i++) {
            x.gives("glass(3, 1, 1)", i).gives("takeOff(" + i + ", 2)", 101).does("tick(1)");
        }
        x.gives("count(3)", 39).refuses("glassTold(39, 0)", BAD).refuses("takeOff(39, 2)", BAD);
        x.gives("glass(3, 1, 1)", 39).gives("count(3)", 40).gives("glassTold(39, 0)", 3);
        x.gives("read(3, 2)", 1);
        x.refuses("glassTold(40, 0)", BAD).refuses("takeOff(40, 2)", BAD).refuses("takeOff(-1, 2)", BAD);
        x.gives("takeOff(39, 2)", 101).gives("entry(79, 2)", 39);
        x.does("tick(1)").refuses("glass(3, 1, 1)", FULL).refuses("glass(3, 4, 100)", FULL);
        x.does("read(0, 2)").refuses("glass(0, 0, 1)", FULL).gives("count(3)", 40).gives("count(6)", 83);
    }

    private static void minutes() {
        for (int minutes : new int[] {Integer.MIN_VALUE, -100, -1, 0, 101, 102, 1000, Integer.MAX_VALUE}) {
            firms().does("read(3, 1)").refuses("glass(3, 1, " + minutes + ")", BAD);
        }
        for (int minutes : new int[] {1, 2, 99, 100}) {
            Trial x = firms().does("tick(5)", "read(3, 1)").gives("glass(3, 1, " + minutes + ")", 0);
            x.gives("glassTold(0, 2)", 5 + minutes);
        }
        Trial last = firms().does("read(3, 1)").times(100, "tick(1000)").gives("glass(3, 1, 100)", 0);
        last.gives("glassTold(0, 2)", 100100).gives("glassTold(0, 3)", 1).gives("read(3, 2)", 1);
    }

    private static void runsAsLongAs() {
        for (int start : new int[] {0, 7}) {
            for (int minutes : new int[] {1, 2, 100}) {
                Trial x = firms().does("read(3, 1)");
                if (start > 0) {
                    x.does("tick(" + start + ")");
                }
                x.does("glass(3, 1, " + minutes + ")").gives("glassTold(0, 3)", 1);
                if (minutes > 1) {
                    x.does("tick(" + (minutes - 1) + ")");
                }
                x.gives("glassTold(0, 3)", 1).gives("read(3, 2)", 1).refuses("glass(3, 1, 1)", RUNS);
                x.does("tick(1)").gives("glassTold(0, 3)", 0).refuses("read(3, 2)", WALL);
                x.does("tick(1)").gives("glassTold(0, 3)", 0).refuses("read(3, 2)", WALL);
                x.gives("glass(3, 1, 1)", 1).gives("glassTold(0, 3)", 0).gives("glassTold(1, 3)", 1);
            }
        }
    }

    private static void leavesDuty() {
        Trial x = broken(1).gives("glassTold(0, 4)", 1).gives("told(3, 3)", 1).gives("told(2, 3)", 0);
        x.does("tick(1)").gives("glassTold(0, 4)", 1).gives("told(3, 3)", 1);
        x.does("tick(100)").gives("glassTold(0, 4)", 1).gives("told(3, 3)", 1);
        x.times(99, "tick(1000)").does("roles(2, 128)", "roles(3, 128)").gives("glassTold(0, 4)", 1);
        x.gives("told(3, 3)", 1).refuses("takeOff(0, 3)", APART).gives("told(3, 3)", 1);
        x.gives("takeOff(0, 2)", 0).gives("glassTold(0, 4)", 0).gives("told(3, 3)", 0);

        Trial two = broken(50).does("glass(3, 4, 50)", "roles(2, 128)").gives("told(3, 3)", 2);
        two.gives("takeOff(1, 2)", 150).gives("glassTold(0, 4)", 1).gives("glassTold(1, 4)", 0).gives("told(3, 3)", 1);
        two.gives("glassTold(1, 3)", 1).gives("read(3, 0)", 1).gives("takeOff(0, 2)", 150).gives("told(3, 3)", 0);
    }

    private static void dueMinute() {
        for (int minutes : new int[] {1, 100}) {
            for (int behind = -2; behind <= 2; behind++) {
                Trial x = broken(minutes).does("tick(" + (minutes + 100 + behind) + ")");
                if (behind < 0) {
                    x.gives("glass(3, 1, 1)", 1);
                } else {
                    x.refuses("glass(3, 1, 1)", OWES);
                }
                x.does("roles(2, 128)").gives("takeOff(0, 2)", Math.max(0, -behind));
                x.gives("glass(3, 4, 1)", behind < 0 ? 2 : 1);
            }
        }
    }

    private static void needless() {
        Trial x = firms().refuses("glass(3, 0, 1)", NEEDLESS).refuses("glass(3, 2, 100)", NEEDLESS);
        x.refuses("glass(3, 3, 1)", NEEDLESS).does("read(3, 1)");
        x.refuses("glass(3, 0, 1)", NEEDLESS).refuses("glass(3, 2, 1)", NEEDLESS).refuses("glass(3, 3, 1)", NEEDLESS);
        x.gives("glass(3, 1, 1)", 0).gives("glass(3, 4, 1)", 1).gives("count(6)", 3);
        firms().does("write(3, 1)").gives("glass(3, 1, 1)", 0);
        // Writing would leak, yet reading is granted.
        Trial leak = firms().does("read(3, 1)").refuses("write(3, 3)", LEAK).refuses("glass(3, 2, 1)", NEEDLESS);
        leak.refuses("write(3, 4)", LEAK).refuses("glass(3, 3, 1)", NEEDLESS);
        // A firm without an object has its wall all the same, and an own glass opens no other one.
        firms().does("firm(0)", "read(3, 1)").gives("glass(3, 5, 1)", 0);
        firms().does("firm(0)").refuses("glass(3, 5, 1)", NEEDLESS);
        broken(9).does("read(3, 2)").gives("glass(3, 4, 9)", 1).refuses("glass(3, 0, 9)", NEEDLESS);
        broken(1).does("read(3, 2)", "tick(1)").gives("glass(3, 1, 1)", 1);
        broken(9).refuses("glass(2, 1, 1)", NEEDLESS).does("read(2, 2)").refuses("glass(2, 1, 1)", NEEDLESS);
    }

    private static void runs() {
        broken(1).refuses("glass(3, 1, 1)", RUNS).does("tick(1)").gives("glass(3, 1, 1)", 1);
        Trial x = broken(100).does("tick(99)").refuses("glass(3, 1, 1)", RUNS).gives("glass(3, 4, 1)", 1);
        x.does("read(2, 1)").gives("glass(2, 1, 1)", 2).refuses("glass(2, 1, 1)", RUNS);
        x.does("tick(1)").gives("glass(3, 1, 1)", 3).refuses("glass(3, 1, 1)", RUNS);
        // It is the glass that runs, whether its duty is open or not.
        Trial off = broken(2).does("roles(2, 128)", "takeOff(0, 2)").refuses("glass(3, 1, 1)", RUNS).does("tick(1)");
        off.refuses("glass(3, 1, 1)", RUNS).does("tick(1)").gives("glass(3, 1, 1)", 1);
        // A shorter one, broken later, for another firm: the first still runs.
        Trial two = broken(9).does("glass(3, 4, 1)", "tick(1)").refuses("glass(3, 1, 1)", RUNS);
        two.gives("glass(3, 4, 1)", 2);
    }

    private static void owesThree() {
        Trial x = firms().does("firm(0)", "firm(0)", "read(3, 1)");
        x.gives("glass(3, 1, 100)", 0).gives("told(3, 3)", 1).gives("glass(3, 4, 100)", 1).gives("told(3, 3)", 2);
        x.gives("glass(3, 5, 100)", 2).gives("told(3, 3)", 3).refuses("glass(3, 6, 100)", OWES);
        x.does("read(2, 1)").gives("glass(2, 6, 1)", 3);
        x.does("roles(2, 128)", "takeOff(1, 2)").gives("told(3, 3)", 2).gives("glass(3, 6, 100)", 4);
        x.gives("told(3, 3)", 3).does("takeOff(0, 2)", "takeOff(2, 2)", "takeOff(4, 2)").gives("told(3, 3)", 0);
        x.gives("told(2, 3)", 1);
        // Over, but not yet due: the duties of glasses that run no more count as well.
        Trial over = broken(1).does("tick(1)", "glass(3, 1, 1)", "tick(1)", "glass(3, 1, 1)", "tick(1)");
        over.refuses("glass(3, 1, 1)", OWES).refuses("glass(3, 4, 1)", OWES).does("roles(2, 128)", "takeOff(2, 2)");
        over.gives("glass(3, 1, 1)", 3).refuses("glass(3, 4, 1)", OWES);
    }

    private static void owesOneDue() {
        Trial before = broken(1).does("tick(100)").gives("glass(3, 1, 1)", 1);
        before.does("tick(1)").refuses("glass(3, 1, 1)", OWES).refuses("glass(3, 4, 1)", OWES);
        before.does("roles(2, 128)", "takeOff(0, 2)").gives("glass(3, 4, 1)", 2);
        broken(1).does("tick(101)").refuses("glass(3, 1, 1)", OWES);
        broken(1).does("tick(102)").refuses("glass(3, 1, 1)", OWES);
        broken(1).times(100, "tick(1000)").refuses("glass(3, 1, 1)", OWES);
        // Another one's due duty is no debt of his, nor is one that was taken off.
        broken(1).does("read(2, 1)", "tick(200)").gives("glass(2, 1, 1)", 1).refuses("glass(3, 1, 1)", OWES);
        broken(1).does("roles(2, 128)", "takeOff(0, 2)", "tick(200)").gives("glass(3, 1, 1)", 1);
        // The later of two is due first.
        Trial later = broken(100).does("glass(3, 4, 1)", "tick(101)").refuses("glass(3, 1, 1)", OWES);
        later.does("roles(2, 128)", "takeOff(1, 2)").gives("glass(3, 1, 1)", 2);
    }

    private static void orderOfRefusals() {
        Trial three = broken(100).does("glass(3, 4, 100)", "firm(0)", "firm(0)", "glass(3, 5, 100)");
        three.refuses("glass(3, 0, 1)", NEEDLESS).refuses("glass(3, 3, 1)", NEEDLESS).refuses("glass(3, 2, 1)", NEEDLESS);
        three.refuses("glass(3, 1, 1)", RUNS).refuses("glass(3, 5, 1)", RUNS).refuses("glass(3, 6, 1)", OWES);
        Trial due = broken(1).does("tick(100)", "glass(3, 1, 5)", "tick(1)");
        due.refuses("glass(3, 0, 1)", NEEDLESS).refuses("glass(3, 1, 1)", RUNS).refuses("glass(3, 4, 1)", OWES);
        for (String bad : new String[] {"glass(3, 1, 0)", "glass(3, 1, 101)", "glass(3, 0, 0)", "glass(3, 4, 101)",
                "glass(12, 1, 1)", "glass(-1, 1, 1)", "glass(3, 5, 1)", "glass(3, -1, 1)"}) {
            due.refuses(bad, BAD);
        }
    }

    private static void glassFull() {
        Trial x = broken(100).does("read(2, 1)");
        x.times(236, "read(2, 4)").gives("count(6)", 239);
        x.gives("glass(3, 4, 1)", 1).gives("entry(239, 0)", 3).gives("count(6)", 240);
        x.refuses("glass(2, 1, 1)", FULL).refuses("glass(2, 1, 0)", BAD).refuses("glass(2, 0, 1)", NEEDLESS);
        x.refuses("glass(3, 1, 1)", RUNS).gives("count(3)", 2);
        x.does("tick(1)").refuses("glass(3, 4, 1)", FULL).does("tick(100)").refuses("glass(3, 4, 1)", OWES);

        Trial forty = firms().does("roles(2, 128)", "read(3, 1)", "read(4, 1)").does("glass(4, 1, 100)");
        for (int i = 1; i < 38; i++) {
            forty.does("glass(3, 1, 1)", "takeOff(" + i + ", 2)", "tick(1)");
        }
        forty.does("glass(3, 1, 100)").gives("glass(3, 4, 1)", 39).does("tick(1)");
        forty.refuses("glass(3, 4, 1)", FULL).refuses("glass(4, 4, 1)", FULL);
        forty.refuses("glass(3, 4, 0)", BAD).refuses("glass(3, 5, 1)", BAD).refuses("glass(3, 0, 1)", NEEDLESS);
        forty.refuses("glass(3, 1, 1)", RUNS).refuses("glass(4, 1, 1)", RUNS);
        forty.does("tick(100)").refuses("glass(3, 1, 1)", OWES).refuses("glass(4, 4, 1)", FULL);
    }

    private static void bySupervisor() {
        Trial x = broken(9).refuses("takeOff(0, 2)", ROLE).does("roles(2, 128)").gives("takeOff(0, 2)", 109);
        x.does("roles(2, 0)", "glass(3, 4, 9)").refuses("takeOff(1, 2)", ROLE);
        broken(9).does("roles(2, 128)", "roles(2, 127)").refuses("takeOff(0, 2)", ROLE);
        broken(9).does("roles(2, 128)").refuses("takeOff(0, 1)", ROLE).gives("takeOff(0, 2)", 109);
    }

    private static void bitSeven() {
        for (int bits : new int[] {0, 1, 64, 126, 127}) {
            broken(9).does("roles(2, " + bits + ")").refuses("takeOff(0, 2)", ROLE);
        }
        for (int bits : new int[] {128, 129, 192, 254, 255}) {
            broken(9).does("roles(2, " + bits + ")").gives("takeOff(0, 2)", 109);
        }
    }

    private static void notThatUser() {
        Trial x = broken(9).does("roles(3, 128)").refuses("takeOff(0, 3)", APART);
        x.does("roles(2, 128)", "roles(4, 128)", "read(2, 1)", "glass(2, 1, 9)").refuses("takeOff(1, 2)", APART);
        x.gives("takeOff(1, 3)", 109).gives("takeOff(0, 4)", 109);
        for (int user : new int[] {0, 11}) {
            Trial own = firms().does("read(" + user + ", 1)", "glass(" + user + ", 1, 9)", "roles(" + user + ", 255)");
            own.refuses("takeOff(0, " + user + ")", APART).does("roles(5, 128)").gives("takeOff(0, 5)", 109);
        }
    }

    private static void minutesUntilDue() {
        int[][] untilDue = {{0, 200}, {1, 199}, {99, 101}, {100, 100}, {101, 99}, {198, 2}, {199, 1}, {200, 0}, {201, 0},
                {1000, 0}};
        for (int[] one : untilDue) {
            Trial x = broken(100).does("roles(2, 128)");
            if (one[0] > 0) {
                x.does("tick(" + one[0] + ")");
            }
            x.gives("takeOff(0, 2)", one[1]);
        }
        broken(1).does("roles(2, 128)").times(100, "tick(1000)").gives("takeOff(0, 2)", 0);
        Trial late = firms().does("read(3, 1)", "roles(2, 128)").times(100, "tick(1000)");
        late.does("glass(3, 1, 100)").gives("takeOff(0, 2)", 200);
    }

    private static void notOpen() {
        Trial x = broken(9).does("roles(2, 128)").refuses("takeOff(1, 2)", BAD).refuses("takeOff(-1, 2)", BAD);
        x.gives("takeOff(0, 2)", 109).refuses("takeOff(0, 2)", BAD).refuses("takeOff(0, 1)", BAD);
        x.refuses("takeOff(0, 3)", BAD).does("roles(3, 128)").refuses("takeOff(0, 3)", BAD).gives("count(6)", 3);
        x.does("tick(9)", "glass(3, 1, 9)").refuses("takeOff(0, 2)", BAD).gives("takeOff(1, 2)", 109);
        for (int far : FAR) {
            x.refuses("takeOff(" + far + ", 2)", BAD).refuses("takeOff(1, " + far + ")", BAD);
        }
    }

    private static void takeOffOrder() {
        Trial x = broken(9).refuses("takeOff(0, 12)", BAD).refuses("takeOff(0, -1)", BAD).refuses("takeOff(1, 1)", BAD);
        x.refuses("takeOff(0, 3)", ROLE).refuses("takeOff(0, 1)", ROLE).does("roles(2, 128)");
        x.times(237, "read(2, 4)").gives("count(6)", 239);
        x.does("glass(3, 4, 9)").gives("count(6)", 240);
        x.refuses("takeOff(0, 2)", FULL).refuses("takeOff(1, 2)", FULL).refuses("takeOff(2, 2)", BAD);
        x.refuses("takeOff(0, 12)", BAD).refuses("takeOff(0, 3)", ROLE).refuses("takeOff(0, 1)", ROLE);
        x.does("roles(3, 128)").refuses("takeOff(0, 3)", APART).gives("told(3, 3)", 2);

        Trial last = broken(9).does("roles(2, 128)").times(237, "read(2, 4)").gives("takeOff(0, 2)", 109);
        last.gives("entry(239, 0)", 4).gives("count(6)", 240).refuses("takeOff(0, 2)", BAD);
    }

    private static void glassTold() {
        Trial x = firms().does("tick(3)", "read(11, 1)", "glass(11, 4, 20)", "tick(2)", "glass(11, 1, 1)");
        int[] first = {11, 4, 23, 1, 1};
        int[] second = {11, 1, 6, 1, 1};
        for (int what = 0; what <= 4; what++) {
            x.gives("glassTold(0, " + what + ")", first[what]).gives("glassTold(1, " + what + ")", second[what]);
        }
        x.does("tick(1)", "roles(2, 128)", "takeOff(0, 2)");
        x.gives("glassTold(0, 3)", 1).gives("glassTold(0, 4)", 0).gives("glassTold(0, 2)", 23);
        x.gives("glassTold(1, 3)", 0).gives("glassTold(1, 4)", 1).gives("glassTold(1, 2)", 6);
        for (int what = 0; what <= 4; what++) {
            x.refuses("glassTold(2, " + what + ")", BAD).refuses("glassTold(-1, " + what + ")", BAD);
        }
        x.refuses("glassTold(0, -1)", BAD).refuses("glassTold(0, 5)", BAD).refuses("glassTold(1, 6)", BAD);
        for (int far : FAR) {
            x.refuses("glassTold(" + far + ", 0)", BAD).refuses("glassTold(0, " + far + ")", BAD);
        }
    }
}

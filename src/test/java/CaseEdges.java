/** Kinds, cases and tasks: the edges of Terms, and of promises 11 to 18. */
public final class CaseEdges extends Edges {
    public static void main(String[] args) {
        sentence("KINDS .. of 1 to 6 TASKS", CaseEdges::oneToSixTasks);
        sentence("each TASK needs a ROLE (0 .. 7)", CaseEdges::taskRole);
        sentence("and some TASKS of lesser numbers done before.", CaseEdges::tasksBefore);
        sentence("A TASK of a KIND .. BAD: also bits of none, or there are CASES of it; FULL: 6.", CaseEdges::taskOrder);
        sentence("Two TASKS may be APART (not the same user for both)", CaseEdges::twoApart);
        sentence("or BOUND (the same one)", CaseEdges::twoBound);
        sentence("Two TASKS of a KIND are APART: whether they were not so already (1 or 0). "
                + "BAD: also the same one, or CASES.", () -> pairs("apart", "bound"));
        sentence("Two are BOUND, likewise.", () -> pairs("bound", "apart"));
        sentence("a KIND has a MOST: how many TASKS of a case a user may do (6 at first).", CaseEdges::mostOfKind);
        sentence("MOST of a KIND, 1 .. 6: what it was. BAD: also CASES.", CaseEdges::mostWas);
        sentence("While there are CASES of a KIND it is not altered.", CaseEdges::notAltered);
        sentence("A CASE of a KIND: its number. BAD: also a KIND without TASKS; FULL.", CaseEdges::openOrder);
        sentence("each TASK that is not done could get a user who has its ROLE now", CaseEdges::userWithRole);
        sentence("so that all that are APART are", CaseEdges::allApart);
        sentence("all that are BOUND are", CaseEdges::allBound);
        sentence("and nobody has more than MOST", CaseEdges::nobodyMore);
        sentence("with those that are done", CaseEdges::withDone);
        sentence("(whatever ROLES those users have now).", CaseEdges::whateverRoles);
        sentence("Whether a CASE CAN END (1 or 0; 1 if all is done). BAD.", CaseEdges::allDone);
        sentence("DONE: it is", CaseEdges::done);
        sentence("EARLY: one that must be before it is not", CaseEdges::early);
        sentence("ROLE: he has it not", CaseEdges::role);
        sentence("APART, BOUND: that is broken with one that is done", CaseEdges::brokenWithDone);
        sentence("MOST: he would have more", CaseEdges::wouldHaveMore);
        sentence("STUCK: the CASE CAN END now, but could not then.", CaseEdges::stuck);
        sentence("A TASK is done by a user; refused, the first that is so", CaseEdges::orderOfRefusals);
        sentence("BAD; DONE; EARLY; ROLE; APART; BOUND; MOST; STUCK; FULL.", CaseEdges::fullBehindAll);
        sentence("A TASK of a CASE is done by a user: how many are left. BAD", CaseEdges::howManyLeft);
        sentence("Who did a TASK of a CASE; NONE: it is not done. BAD.", CaseEdges::doer);
        end();
    }

    private static void oneToSixTasks() {
        Trial x = new Trial().does("kind()", "kind()", "roles(0, 1)").refuses("open(0)", BAD);
        x.gives("task(0, 0, 0)", 0).gives("open(0)", 0).refuses("open(1)", BAD);
        x.refuses("perform(1, 0, 0)", BAD).refuses("doer(1, 0)", BAD).refuses("perform(-1, 0, 0)", BAD);
        x.gives("perform(0, 0, 0)", 0);
        for (int n = 0; n < 6; n++) {
            x.gives("task(1, 0, 0)", n);
            if (n < 5) {
                x.refuses("apart(1, 0, " + (n + 1) + ")", BAD).refuses("bound(1, " + (n + 1) + ", 0)", BAD);
            }
        }
        x.refuses("task(1, 0, 0)", FULL).gives("open(1)", 1).gives("doer(5, 1)", NONE);
        x.refuses("perform(6, 1, 0)", BAD).refuses("doer(6, 1)", BAD).gives("perform(5, 1, 0)", 5);
        for (int n = 1; n <= 6; n++) {
            tasks(n).gives("open(0)", 0).refuses("doer(" + n + ", 0)", BAD).gives("doer(" + (n - 1) + ", 0)", NONE);
        }
    }

    private static void taskRole() {
        Trial x = new Trial().does("kind()");
        for (int role : new int[] {Integer.MIN_VALUE, -8, -2, -1, 8, 9, 255, Integer.MAX_VALUE}) {
            x.refuses("task(0, " + role + ", 0)", BAD);
        }
        x.gives("task(0, 0, 0)", 0).gives("task(0, 7, 0)", 1).gives("task(0, 1, 0)", 2).gives("task(0, 6, 0)", 3);
        x.does("open(0)", "roles(0, 1)", "roles(1, 128)", "roles(2, 2)", "roles(4, 64)", "roles(5, 126)");
        x.refuses("perform(0, 0, 5)", ROLE).refuses("perform(1, 0, 5)", ROLE).refuses("perform(1, 0, 0)", ROLE);
        x.refuses("perform(0, 0, 1)", ROLE).gives("perform(0, 0, 0)", 3).gives("perform(1, 0, 1)", 2);
        x.gives("perform(2, 0, 5)", 1).gives("perform(3, 0, 4)", 0);
    }

    private static void tasksBefore() {
        Trial x = new Trial().does("kind()").refuses("task(0, 0, 1)", BAD).refuses("task(0, 0, -1)", BAD);
        for (int n = 0; n < 6; n++) {
            x.refuses("task(0, 0, " + (1 << n) + ")", BAD).refuses("task(0, 0, " + (2 << n) + ")", BAD);
            x.refuses("task(0, 0, " + ((2 << n) - 1) + ")", BAD).refuses("task(0, 0, 64)", BAD);
            x.gives("task(0, 0, " + ((1 << n) - 1) + ")", n);
        }
        x.does("open(0)", "roles(0, 1)");
        for (int n = 0; n < 6; n++) {
            for (int later = n + 1; later < 6; later++) {
                x.refuses("perform(" + later + ", 0, 0)", EARLY);
            }
            x.gives("perform(" + n + ", 0, 0)", 5 - n);
        }
        tasks(6).does("open(0)", "roles(0, 1)").gives("perform(5, 0, 0)", 5).gives("perform(0, 0, 0)", 4);
        Trial one = tasks(5).gives("task(0, 0, 16)", 5).does("open(0)", "roles(0, 1)");
        one.does("perform(0, 0, 0)", "perform(1, 0, 0)", "perform(2, 0, 0)", "perform(3, 0, 0)");
        one.refuses("perform(5, 0, 0)", EARLY).gives("perform(4, 0, 0)", 1).gives("perform(5, 0, 0)", 0);
    }

    private static void taskOrder() {
        Trial x = tasks(5).refuses("task(0, 0, 32)", BAD).gives("task(0, 0, 31)", 5);
        x.refuses("task(0, 0, 0)", FULL).refuses("task(0, 7, 63)", FULL).refuses("task(0, 0, 32)", FULL);
        x.refuses("task(0, 0, 64)", BAD).refuses("task(0, 0, 127)", BAD).refuses("task(0, 0, -64)", BAD);
        x.refuses("task(0, 8, 0)", BAD).refuses("task(0, -1, 0)", BAD).refuses("task(1, 0, 0)", BAD);
        x.does("open(0)").refuses("task(0, 0, 0)", BAD).gives("count(5)", 1);
        for (int far : FAR) {
            tasks(1).refuses("task(0, 0, " + far + ")", BAD).refuses("task(" + far + ", 0, 0)", BAD);
        }
        tasks(1).does("open(0)").refuses("task(0, 0, 0)", BAD).refuses("task(0, 0, 1)", BAD);
    }

    /** The kind's case 0, which users 0 and 1 may do all tasks of. */
    private static Trial forTwo(Trial kind) {
        return kind.does("open(0)", "roles(0, 1)", "roles(1, 1)");
    }

    private static void twoApart() {
        for (String pair : new String[] {"0, 1", "1, 0", "0, 5", "5, 0", "4, 5"}) {
            char a = pair.charAt(0);
            char b = pair.charAt(3);
            Trial x = forTwo(tasks(6).gives("apart(0, " + pair + ")", 1)).gives("perform(" + a + ", 0, 0)", 5);
            x.refuses("perform(" + b + ", 0, 0)", APART).gives("perform(3, 0, 0)", 4);
            x.gives("perform(" + b + ", 0, 1)", 3);
        }
        forTwo(tasks(2)).gives("perform(0, 0, 0)", 1).gives("perform(1, 0, 0)", 0);
    }

    private static void twoBound() {
        for (String pair : new String[] {"0, 1", "1, 0", "0, 5", "5, 0", "4, 5"}) {
            char a = pair.charAt(0);
            char b = pair.charAt(3);
            Trial x = forTwo(tasks(6).gives("bound(0, " + pair + ")", 1)).gives("perform(" + a + ", 0, 0)", 5);
            x.refuses("perform(" + b + ", 0, 1)", BOUND).gives("perform(3, 0, 1)", 4);
            x.gives("perform(" + b + ", 0, 0)", 3);
        }
        forTwo(tasks(2)).gives("perform(0, 0, 0)", 1).gives("perform(1, 0, 1)", 0);
    }

    private static void pairs(String name, String otherName) {
        for (int a = 0; a < 6; a++) {
            for (int b = 0; b < 6; b++) {
                String pair = "(0, " + a + ", " + b + ")";
                if (a == b) {
                    tasks(6).refuses(name + pair, BAD);
                    continue;
                }
                Trial x = tasks(6).gives(name + pair, 1).gives(name + pair, 0);
                x.gives(name + "(0, " + b + ", " + a + ")", 0).gives(otherName + pair, 1);
            }
        }
        Trial all = tasks(6);
        for (int a = 0; a < 6; a++) {
            for (int b = 0; b < a; b++) {
                all.gives(name + "(0, " + a + ", " + b + ")", 1);
            }
        }
        Trial x = tasks(3).does("kind()");
        for (String bad : new String[] {"(0, 0, 3)", "(0, 3, 0)", "(0, 3, 3)", "(0, 2, 2)", "(0, -1, 0)", "(0, 0, -1)",
                "(0, 0, 6)", "(0, 32, 0)", "(1, 0, 1)", "(1, 0, 0)", "(2, 0, 1)", "(-1, 0, 1)"}) {
            x.refuses(name + bad, BAD);
        }
        x.gives(name + "(0, 0, 2)", 1).gives(name + "(0, 1, 2)", 1).gives(name + "(0, 0, 1)", 1);
        x.does("open(0)").refuses(name + "(0, 0, 1)", BAD).refuses(name + "(0, 1, 1)", BAD);
        x.refuses(name + "(0, 0, 3)", BAD);
        for (int far : FAR) {
            tasks(2).refuses(name + "(" + far + ", 0, 1)", BAD).refuses(name + "(0, " + far + ", 1)", BAD)
                    .refuses(name + "(0, 0, " + far + ")", BAD);
        }
    }

    private static void mostOfKind() {
        Trial six = tasks(6).does("open(0)", "roles(0, 1)").gives("canEnd(0)", 1);
        for (int task = 0; task < 6; task++) {
            six.gives("perform(" + task + ", 0, 0)", 5 - task);
        }
        for (int most = 1; most <= 6; most++) {
            Trial x = tasks(6).does("most(0, " + most + ")", "roles(0, 1)", "open(0)", "open(0)");
            // Case 1 counts by itself.
            x.gives("perform(0, 1, 0)", 5);
            for (int task = 0; task < most; task++) {
                x.gives("perform(" + task + ", 0, 0)", 5 - task);
            }
            if (most < 6) {
                x.refuses("perform(" + most + ", 0, 0)", MOST).refuses("perform(5, 0, 0)", MOST);
                x.does("roles(1, 1)").gives("perform(5, 0, 1)", 5 - most);
            }
        }
    }

    private static void mostWas() {
        Trial x = tasks(1).does("kind()").gives("most(0, 1)", 6).gives("most(0, 6)", 1).gives("most(0, 2)", 6);
        for (int most : new int[] {Integer.MIN_VALUE, -2, -1, 0, 7, 8, Integer.MAX_VALUE}) {
            x.refuses("most(0, " + most + ")", BAD).refuses("most(1, " + most + ")", BAD);
        }
        x.gives("most(0, 5)", 2).gives("most(0, 5)", 5).gives("most(1, 6)", 6).gives("most(1, 3)", 6);
        x.refuses("most(2, 1)", BAD).refuses("most(-1, 1)", BAD);
        x.does("open(0)").refuses("most(0, 6)", BAD).refuses("most(0, 5)", BAD).refuses("most(0, 0)", BAD);
        x.gives("most(1, 1)", 3);
        for (int far : FAR) {
            x.refuses("most(" + far + ", 1)", BAD);
        }
    }

    private static void notAltered() {
        Trial x = tasks(2).does("kind()", "task(1, 0, 0)", "task(1, 0, 0)", "roles(0, 1)", "open(0)");
        String[] alterings = {"task(0, 0, 0)", "apart(0, 0, 1)", "bound(0, 0, 1)", "most(0, 1)", "most(0, 6)"};
        for (String altering : alterings) {
            x.refuses(altering, BAD);
        }
        x.gives("canEnd(0)", 1).gives("perform(0, 0, 0)", 1).gives("perform(1, 0, 0)", 0);
        // A case that is done is still there.
        for (String altering : alterings) {
            x.refuses(altering, BAD);
        }
        x.gives("task(1, 0, 3)", 2).gives("apart(1, 0, 1)", 1).gives("bound(1, 0, 1)", 1).gives("most(1, 1)", 6);
        x.does("open(1)").refuses("task(1, 0, 0)", BAD).refuses("apart(1, 0, 2)", BAD).refuses("bound(1, 0, 2)", BAD);
        x.refuses("most(1, 2)", BAD);
        forTwo(tasks(2)).refuses("bound(0, 0, 1)", BAD).gives("perform(0, 0, 0)", 1).gives("perform(1, 0, 1)", 0);
        forTwo(tasks(2)).refuses("apart(0, 0, 1)", BAD).gives("perform(0, 0, 0)", 1).gives("perform(1, 0, 0)", 0);
        forTwo(tasks(2)).refuses("most(0, 1)", BAD).gives("perform(0, 0, 0)", 1).gives("perform(1, 0, 0)", 0);
        // An opening that was refused leaves the kind to be altered.
        Trial empty = new Trial().does("kind()").refuses("open(0)", BAD).gives("task(0, 0, 0)", 0);
        empty.gives("most(0, 3)", 6);
        Trial full = tasks(2).does("kind()", "task(1, 0, 0)", "task(1, 0, 0)").times(16, "open(0)");
        full.refuses("open(1)", FULL).gives("task(1, 0, 0)", 2).gives("apart(1, 0, 1)", 1).gives("bound(1, 1, 2)", 1);
        full.gives("most(1, 2)", 6).refuses("most(0, 2)", BAD);
    }

    private static void openOrder() {
        Trial x = tasks(1).does("kind()").refuses("open(1)", BAD).refuses("open(2)", BAD).refuses("open(-1)", BAD);
        x.times(15, "open(0)").gives("open(0)", 15);
        x.refuses("open(0)", FULL).refuses("open(1)", BAD).refuses("open(2)", BAD);
        x.does("task(1, 0, 0)").refuses("open(1)", FULL);
        for (int far : FAR) {
            x.refuses("open(" + far + ")", BAD);
        }
    }

    private static void userWithRole() {
        for (int user : new int[] {0, 11}) {
            Trial x = tasks(2).does("open(0)").gives("canEnd(0)", 0).does("roles(" + user + ", 254)");
            x.gives("canEnd(0)", 0).does("roles(" + user + ", 1)").gives("canEnd(0)", 1);
            x.does("perform(1, 0, " + user + ")", "roles(" + user + ", 0)").gives("canEnd(0)", 0);
            x.does("roles(" + user + ", 255)").gives("canEnd(0)", 1);
        }
        for (int role = 0; role < 8; role++) {
            Trial x = new Trial().does("kind()", "task(0, " + role + ", 0)", "open(0)");
            x.does("roles(5, " + (255 - (1 << role)) + ")").gives("canEnd(0)", 0);
            x.does("roles(6, " + (1 << role) + ")").gives("canEnd(0)", 1);
        }
        for (int task = 0; task < 6; task++) {
            Trial x = new Trial().does("kind()");
            for (int other = 0; other < 6; other++) {
                x.does("task(0, " + (other == task ? 7 : 0) + ", 0)");
            }
            x.does("open(0)", "roles(0, 127)").gives("canEnd(0)", 0).does("roles(1, 128)").gives("canEnd(0)", 1);
        }
        // However many could do the others, it helps the one that nobody has the role of no bit.
        for (int task = 0; task < 6; task++) {
            Trial x = new Trial().does("kind()");
            for (int other = 0; other < 6; other++) {
                x.does("task(0, " + (other == task ? 7 : 0) + ", 0)");
            }
            withRole(x.does("open(0)"), 11).gives("canEnd(0)", 0).does("roles(0, 128)").gives("canEnd(0)", 1);
        }
    }

    private static Trial withRole(Trial x, int users) {
        for (int user = 0; user < users; user++) {
            x.does("roles(" + (11 - user) + ", 1)");
        }
        return x;
    }

    private static void allApart() {
        for (int n = 2; n <= 6; n++) {
            Trial x = tasks(n);
            for (int a = 0; a < n; a++) {
                for (int b = 0; b < a; b++) {
                    x.does("apart(0, " + a + ", " + b + ")");
                }
            }
            withRole(x.does("open(0)"), n - 1).gives("canEnd(0)", 0).does("roles(0, 1)").gives("canEnd(0)", 1);
        }
        for (int a = 0; a < 6; a++) {
            for (int b = 0; b < a; b++) {
                Trial x = tasks(6).does("apart(0, " + a + ", " + b + ")", "open(0)", "roles(0, 1)");
                x.gives("canEnd(0)", 0).does("roles(11, 1)").gives("canEnd(0)", 1);
            }
        }
        // A ring of five needs three, though none of its tasks is apart from more than two.
        Trial ring = tasks(5);
        for (int task = 0; task < 5; task++) {
            ring.does("apart(0, " + task + ", " + (task + 1) % 5 + ")");
        }
        withRole(ring.does("open(0)"), 2).gives("canEnd(0)", 0).does("roles(0, 1)").gives("canEnd(0)", 1);
        tasks(2).does("apart(0, 0, 1)", "bound(0, 0, 1)", "open(0)", "roles(0, 1)", "roles(1, 1)").gives("canEnd(0)", 0);
    }

    private static void allBound() {
        for (int a = 0; a < 6; a++) {
            for (int b = 0; b < a; b++) {
                Trial x = new Trial().does("kind()");
                for (int task = 0; task < 6; task++) {
                    x.does("task(0, " + (task == a ? 1 : 0) + ", 0)");
                }
                x.does("bound(0, " + a + ", " + b + ")", "open(0)", "roles(0, 1)", "roles(1, 2)").gives("canEnd(0)", 0);
                x.does("roles(2, 3)").gives("canEnd(0)", 1);
            }
        }
        // Bound one to the next, the first and the last are done by one user, too.
        Trial chain = new Trial().does("kind()", "task(0, 0, 0)", "task(0, 1, 0)", "task(0, 2, 0)");
        chain.does("bound(0, 0, 1)", "bound(0, 1, 2)", "open(0)", "roles(0, 3)", "roles(1, 6)", "roles(2, 5)");
        chain.gives("canEnd(0)", 0).does("roles(3, 7)").gives("canEnd(0)", 1);
        Trial apart = tasks(3).does("bound(0, 0, 1)", "bound(0, 1, 2)", "apart(0, 0, 2)", "open(0)");
        withRole(apart, 12).gives("canEnd(0)", 0);
    }

    private static void nobodyMore() {
        for (int n = 1; n <= 6; n++) {
            for (int most = 1; most <= 6; most++) {
                Trial x = tasks(n).does("most(0, " + most + ")", "open(0)");
                int users = (n + most - 1) / most;
                withRole(x, users - 1).gives("canEnd(0)", 0).does("roles(0, 1)").gives("canEnd(0)", 1);
            }
        }
        for (int most = 1; most <= 3; most++) {
            Trial x = tasks(3).does("bound(0, 0, 1)", "bound(0, 1, 2)", "most(0, " + most + ")", "open(0)");
            withRole(x, 12).gives("canEnd(0)", most == 3 ? 1 : 0);
        }
    }

    private static void withDone() {
        // Apart from one that is done.
        Trial apart = tasks(2).does("apart(0, 0, 1)", "open(0)", "roles(0, 1)", "roles(1, 1)", "perform(0, 0, 0)");
        apart.gives("canEnd(0)", 1).does("roles(1, 0)").gives("canEnd(0)", 0).does("roles(0, 0)", "roles(1, 1)");
        apart.gives("canEnd(0)", 1);
        // Bound to one that is done.
        Trial bound = tasks(2).does("bound(0, 0, 1)", "open(0)", "roles(0, 1)", "roles(1, 1)", "perform(0, 0, 0)");
        bound.gives("canEnd(0)", 1).does("roles(0, 0)").gives("canEnd(0)", 0).does("roles(0, 1)", "roles(1, 0)");
        bound.gives("canEnd(0)", 1);
        // What he has done counts for the most.
        Trial most = tasks(3).does("most(0, 2)", "open(0)", "roles(0, 1)", "roles(1, 1)", "perform(0, 0, 0)");
        most.gives("canEnd(0)", 1).does("perform(1, 0, 0)").gives("canEnd(0)", 1).does("roles(1, 0)");
        most.gives("canEnd(0)", 0).does("roles(2, 1)").gives("canEnd(0)", 1);
        Trial one = tasks(3).does("most(0, 2)", "open(0)", "roles(0, 1)", "roles(1, 1)", "perform(0, 0, 0)");
        one.does("roles(1, 0)").gives("canEnd(0)", 0).does("roles(0, 0)", "roles(1, 1)").gives("canEnd(0)", 1);
    }

    private static void whateverRoles() {
        Trial x = new Trial().does("kind()", "task(0, 0, 0)", "task(0, 1, 0)", "bound(0, 0, 1)", "open(0)");
        x.does("roles(0, 1)").gives("canEnd(0)", 0).does("perform(0, 0, 0)", "roles(0, 2)").gives("canEnd(0)", 1);
        x.gives("perform(1, 0, 0)", 0);
        Trial other = tasks(2).does("apart(0, 0, 1)", "open(0)", "roles(0, 1)", "roles(1, 1)", "perform(0, 0, 0)");
        other.does("roles(0, 0)").gives("canEnd(0)", 1).gives("perform(1, 0, 1)", 0);
    }

    private static void allDone() {
        for (int n = 1; n <= 6; n++) {
            Trial x = tasks(n).does("open(0)", "roles(0, 1)");
            for (int task = 0; task < n; task++) {
                x.does("roles(0, 0)").gives("canEnd(0)", 0).does("roles(0, 1)").gives("canEnd(0)", 1);
                x.gives("perform(" + task + ", 0, 0)", n - 1 - task);
            }
            x.gives("canEnd(0)", 1).does("roles(0, 0)").gives("canEnd(0)", 1);
            x.refuses("canEnd(1)", BAD).refuses("canEnd(-1)", BAD);
        }
        for (int far : FAR) {
            tasks(1).does("open(0)").refuses("canEnd(" + far + ")", BAD);
        }
    }

    private static void done() {
        Trial x = forTwo(tasks(2)).does("open(0)").gives("perform(0, 0, 0)", 1);
        x.refuses("perform(0, 0, 0)", DONE).refuses("perform(0, 0, 1)", DONE).gives("perform(0, 1, 0)", 1);
        x.gives("perform(1, 0, 0)", 0).refuses("perform(1, 0, 0)", DONE).refuses("perform(0, 0, 1)", DONE);
        x.gives("doer(0, 0)", 0).gives("count(6)", 3);
        forTwo(tasks(1)).gives("perform(0, 0, 0)", 0).refuses("perform(0, 0, 1)", DONE);
    }

    private static void early() {
        Trial x = forTwo(tasks(2).does("task(0, 0, 3)", "task(0, 0, 4)")).refuses("perform(2, 0, 0)", EARLY);
        x.refuses("perform(3, 0, 0)", EARLY).gives("perform(1, 0, 0)", 3).refuses("perform(2, 0, 0)", EARLY);
        x.gives("perform(0, 0, 1)", 2).refuses("perform(3, 0, 0)", EARLY).gives("perform(2, 0, 0)", 1);
        x.gives("perform(3, 0, 0)", 0);
        // Another case's tasks are not before this one's.
        Trial two = forTwo(tasks(1).does("task(0, 0, 1)")).does("open(0)", "perform(0, 0, 0)");
        two.refuses("perform(1, 1, 0)", EARLY).gives("perform(1, 0, 0)", 0);
        forTwo(tasks(2)).gives("perform(1, 0, 0)", 1);
    }

    private static void role() {
        Trial x = tasks(2).does("open(0)", "roles(0, 254)", "roles(1, 1)").refuses("perform(0, 0, 0)", ROLE);
        x.refuses("perform(0, 0, 2)", ROLE).gives("perform(0, 0, 1)", 1).does("roles(1, 0)");
        x.refuses("perform(1, 0, 1)", ROLE).does("roles(0, 255)").gives("perform(1, 0, 0)", 0);
    }

    private static void brokenWithDone() {
        Trial apart = forTwo(tasks(3).does("apart(0, 0, 1)", "apart(0, 1, 2)")).gives("perform(0, 0, 0)", 2);
        apart.refuses("perform(1, 0, 0)", APART).gives("perform(2, 0, 0)", 1).refuses("perform(1, 0, 0)", APART);
        apart.gives("perform(1, 0, 1)", 0);
        Trial bound = forTwo(tasks(3).does("bound(0, 0, 1)")).gives("perform(0, 0, 0)", 2);
        bound.refuses("perform(1, 0, 1)", BOUND).gives("perform(2, 0, 1)", 1).gives("perform(1, 0, 0)", 0);
        // One that is not done, or is of another case, breaks nothing.
        forTwo(tasks(2).does("apart(0, 0, 1)")).does("open(0)", "perform(0, 0, 0)").gives("perform(1, 1, 0)", 1);
        forTwo(tasks(2).does("bound(0, 0, 1)")).does("open(0)", "perform(0, 0, 0)").gives("perform(1, 1, 1)", 1);
    }

    private static void wouldHaveMore() {
        for (int most = 1; most <= 5; most++) {
            Trial x = forTwo(tasks(6).does("most(0, " + most + ")"));
            for (int task = 0; task < most; task++) {
                x.gives("perform(" + task + ", 0, 0)", 5 - task);
            }
            x.refuses("perform(" + most + ", 0, 0)", MOST).refuses("perform(5, 0, 0)", MOST);
            x.gives("perform(" + most + ", 0, 1)", 5 - most);
        }
    }

    private static void stuck() {
        // Two apart tasks: whoever alone has the one's role may not take the other.
        Trial x = new Trial().does("kind()", "task(0, 0, 0)", "task(0, 1, 0)", "apart(0, 0, 1)", "open(0)");
        x.does("roles(0, 3)", "roles(1, 1)").gives("canEnd(0)", 1).refuses("perform(0, 0, 0)", STUCK);
        x.gives("canEnd(0)", 1).gives("doer(0, 0)", NONE).gives("count(6)", 0);
        x.does("roles(11, 2)").gives("perform(0, 0, 0)", 1).does("roles(11, 0)").gives("canEnd(0)", 0);

        Trial other = new Trial().does("kind()", "task(0, 0, 0)", "task(0, 1, 0)", "apart(0, 0, 1)", "open(0)");
        other.does("roles(0, 3)", "roles(1, 1)").gives("perform(1, 0, 0)", 1).gives("perform(0, 0, 1)", 0);

        // One that cannot end now is not stuck by what is done.
        Trial cannot = new Trial().does("kind()", "task(0, 0, 0)", "task(0, 1, 0)", "apart(0, 0, 1)", "open(0)");
        cannot.does("roles(0, 3)").gives("canEnd(0)", 0).gives("perform(0, 0, 0)", 1).gives("canEnd(0)", 0);

        // Bound: he who takes the one must have the other's role, too.
        Trial bound = new Trial().does("kind()", "task(0, 0, 0)", "task(0, 1, 0)", "bound(0, 0, 1)", "open(0)");
        bound.does("roles(0, 1)").gives("canEnd(0)", 0).gives("perform(0, 0, 0)", 1);
        bound.does("open(0)", "roles(1, 3)").gives("canEnd(1)", 1).refuses("perform(0, 1, 0)", STUCK);
        bound.gives("perform(0, 1, 1)", 1).gives("perform(1, 1, 1)", 0);

        // Most: three tasks, one each for two and none for the third.
        Trial most = tasks(2).does("task(0, 1, 0)", "most(0, 2)", "open(0)", "roles(0, 3)", "roles(1, 1)");
        most.gives("perform(0, 0, 0)", 2).refuses("perform(1, 0, 0)", STUCK).gives("perform(1, 0, 1)", 1);
        most.gives("perform(2, 0, 0)", 0);

        // The last task of a case never sticks.
        forTwo(tasks(1)).gives("perform(0, 0, 0)", 0);
    }

    private static void orderOfRefusals() {
        Trial x = new Trial().does("kind()", "task(0, 0, 0)", "task(0, 0, 0)", "task(0, 0, 3)", "task(0, 1, 0)");
        x.does("apart(0, 0, 2)", "apart(0, 0, 3)", "bound(0, 1, 2)", "bound(0, 1, 3)", "most(0, 1)", "open(0)");
        x.does("roles(0, 1)", "roles(1, 1)", "perform(0, 0, 0)");
        // Done, and its role is not his; done, and he has his most.
        x.refuses("perform(0, 0, 5)", DONE).refuses("perform(0, 0, 0)", DONE);
        // Early, and all the rest.
        x.refuses("perform(2, 0, 5)", EARLY).refuses("perform(2, 0, 0)", EARLY).does("perform(1, 0, 1)");
        // No role, apart from his own, bound to another's, and he has his most.
        x.refuses("perform(3, 0, 0)", ROLE).refuses("perform(3, 0, 1)", ROLE).refuses("perform(2, 0, 5)", ROLE);
        x.does("roles(0, 3)", "roles(1, 3)", "roles(5, 3)");
        x.refuses("perform(2, 0, 0)", APART).refuses("perform(3, 0, 0)", APART);
        x.refuses("perform(2, 0, 1)", MOST).refuses("perform(3, 0, 1)", MOST);
        x.refuses("perform(2, 0, 5)", BOUND).refuses("perform(3, 0, 5)", BOUND);
        for (String bad : new String[] {"perform(4, 0, 0)", "perform(0, 1, 0)", "perform(0, 0, 12)", "perform(-1, 0, 5)",
                "perform(0, -1, 5)", "perform(0, 0, -1)"}) {
            x.refuses(bad, BAD);
        }

        // Apart and most, bound and most, of a case that can end.
        Trial y = withRole(tasks(5).does("apart(0, 0, 1)", "bound(0, 2, 3)", "most(0, 2)", "open(0)"), 12);
        y.does("perform(0, 0, 0)", "perform(4, 0, 0)", "perform(2, 0, 1)").gives("canEnd(0)", 1);
        y.refuses("perform(1, 0, 0)", APART).refuses("perform(3, 0, 0)", BOUND).gives("perform(1, 0, 2)", 1);
        y.gives("perform(3, 0, 1)", 0);

        // Early, or without the role, and it would be stuck.
        Trial z = tasks(1).does("task(0, 1, 0)", "task(0, 0, 1)", "apart(0, 0, 1)", "apart(0, 1, 2)", "most(0, 2)");
        z.does("open(0)", "roles(0, 2)", "roles(1, 1)").gives("canEnd(0)", 1).refuses("perform(0, 0, 0)", ROLE);
        z.does("roles(0, 3)").gives("canEnd(0)", 1);
        z.refuses("perform(2, 0, 0)", EARLY).refuses("perform(0, 0, 2)", ROLE).refuses("perform(0, 0, 0)", STUCK);
        z.does("perform(0, 0, 1)").refuses("perform(2, 0, 0)", STUCK).refuses("perform(1, 0, 1)", ROLE);
        z.gives("perform(1, 0, 0)", 1).refuses("perform(2, 0, 0)", APART).gives("perform(2, 0, 1)", 0);
    }

    private static void fullBehindAll() {
        Trial x = new Trial().does("firm(-1)", "object(0)", "kind()", "task(0, 0, 0)", "task(0, 1, 0)");
        x.does("task(0, 0, 2)", "task(0, 0, 0)", "apart(0, 0, 1)", "apart(0, 1, 3)", "most(0, 2)", "open(0)");
        x.does("open(0)", "roles(0, 3)", "roles(1, 1)", "roles(2, 1)", "perform(3, 0, 1)");
        x.times(239, "read(0, 0)").gives("count(6)", 240).gives("canEnd(0)", 1);
        x.refuses("perform(4, 0, 0)", BAD).refuses("perform(3, 0, 2)", DONE).refuses("perform(2, 0, 0)", EARLY);
        x.refuses("perform(0, 0, 3)", ROLE).refuses("perform(0, 0, 0)", STUCK).refuses("perform(0, 0, 1)", FULL);
        x.refuses("perform(1, 0, 0)", FULL).refuses("perform(0, 1, 2)", FULL).gives("doer(0, 0)", NONE);

        Trial y = withRole(tasks(6).does("apart(0, 0, 1)", "bound(0, 2, 3)", "most(0, 2)", "open(0)"), 12);
        y.does("firm(-1)", "object(0)", "perform(0, 0, 0)", "perform(4, 0, 0)", "perform(2, 0, 1)");
        y.times(236, "read(0, 0)").gives("perform(1, 0, 2)", 2).gives("entry(239, 2)", 1).gives("count(6)", 240);
        y.refuses("perform(1, 0, 0)", DONE).refuses("perform(3, 0, 0)", BOUND).refuses("perform(5, 0, 0)", MOST);
        y.refuses("perform(5, 0, 1)", STUCK).refuses("perform(3, 0, 1)", FULL).refuses("perform(5, 0, 3)", FULL);
        y.gives("canEnd(0)", 1).gives("doer(5, 0)", NONE);

        Trial z = withRole(tasks(2).does("apart(0, 0, 1)", "open(0)", "firm(-1)", "object(0)"), 12);
        z.does("perform(0, 0, 5)").times(239, "read(0, 0)").refuses("perform(1, 0, 5)", APART);
        z.refuses("perform(1, 0, 6)", FULL).gives("doer(1, 0)", NONE);
    }

    private static void howManyLeft() {
        for (int n = 1; n <= 6; n++) {
            Trial x = tasks(n).does("roles(11, 1)", "open(0)", "open(0)");
            for (int task = n - 1; task >= 0; task--) {
                x.gives("perform(" + task + ", 1, 11)", task).gives("entry(" + (n - 1 - task) + ", 2)", 8 + task);
            }
            x.gives("doer(0, 0)", NONE);
        }
        Trial x = tasks(2).does("roles(0, 1)", "open(0)");
        for (int bad : new int[] {Integer.MIN_VALUE, -2, -1, 2, 6, 12, Integer.MAX_VALUE}) {
            x.refuses("perform(" + bad + ", 0, 0)", BAD).refuses("perform(0, " + bad + ", 0)", BAD);
        }
        // A task that another case's kind has, and this one's has not.
        Trial two = tasks(2).does("kind()", "task(1, 0, 0)", "open(1)", "open(0)", "roles(0, 1)");
        two.refuses("perform(1, 0, 0)", BAD).gives("perform(1, 1, 0)", 1).refuses("doer(1, 0)", BAD);
    }

    private static void doer() {
        Trial x = tasks(6).does("roles(0, 1)", "roles(11, 1)", "open(0)", "open(0)");
        for (int task = 0; task < 6; task++) {
            x.gives("doer(" + task + ", 0)", NONE).does("perform(" + task + ", 0, " + (task % 2 == 0 ? 0 : 11) + ")");
            x.gives("doer(" + task + ", 0)", task % 2 == 0 ? 0 : 11).gives("doer(" + task + ", 1)", NONE);
        }
        for (int bad : new int[] {Integer.MIN_VALUE, -2, -1, 6, 7, 8, Integer.MAX_VALUE}) {
            x.refuses("doer(" + bad + ", 0)", BAD);
        }
        for (int bad : new int[] {Integer.MIN_VALUE, -2, -1, 2, 3, 16, Integer.MAX_VALUE}) {
            x.refuses("doer(0, " + bad + ")", BAD);
        }
        x.does("roles(0, 0)").gives("doer(0, 0)", 0).gives("alter(0, 1, 7)", 0).gives("doer(0, 0)", 0);
    }
}

import java.util.ArrayList;
import java.util.List;

/**
 * Calls that bring to light, between them, what a desk holds: all that it tells, and then what it
 * does, since tasks, pairs, classes and the like are told by no call of their own.
 */
final class Probes {
    private static final int USERS = 12;

    private final List<List<Call>> groups = new ArrayList<>();
    private final int firms, objects, glasses, kinds, cases, entries;

    private Probes(WallDesk x) {
        firms = x.count(1);
        objects = x.count(2);
        glasses = x.count(3);
        kinds = x.count(4);
        cases = x.count(5);
        entries = x.count(6);
    }

    /** Groups of calls; each group is meant for a desk of its own. */
    static List<List<Call>> of(WallDesk x) {
        Probes probes = new Probes(x);
        probes.looks();
        probes.newOnes();
        probes.walls();
        probes.glasses();
        probes.kinds();
        probes.cases();
        return probes.groups;
    }

    private List<Call> group() {
        List<Call> calls = new ArrayList<>();
        groups.add(calls);
        return calls;
    }

    private static void put(List<Call> calls, String name, int... a) {
        StringBuilder text = new StringBuilder(name).append('(');
        for (int i = 0; i < a.length; i++) {
            text.append(i == 0 ? "" : ", ").append(a[i]);
        }
        calls.add(Call.of(text.append(')').toString()));
    }

    private void looks() {
        List<Call> calls = group();
        for (int what = 0; what <= 6; what++) {
            put(calls, "count", what);
        }
        put(calls, "check");
        for (int user = 0; user < USERS; user++) {
            for (int what = 0; what <= 3; what++) {
                put(calls, "told", user, what);
            }
        }
        for (int glass = 0; glass <= glasses; glass++) {
            for (int what = 0; what <= 4; what++) {
                put(calls, "glassTold", glass, what);
            }
        }
        for (int of = 0; of <= cases; of++) {
            put(calls, "canEnd", of);
            for (int task = 0; task <= 6; task++) {
                put(calls, "doer", task, of);
            }
        }
        for (int i = 0; i <= entries; i++) {
            put(calls, "link", i);
            for (int what = 0; what <= 4; what++) {
                put(calls, "entry", i, what);
            }
        }
    }

    private void newOnes() {
        List<Call> calls = group();
        put(calls, "kind");
        put(calls, "object", firms);
        put(calls, "firm", 7);
        put(calls, "object", firms);
        put(calls, "read", 0, objects);
        put(calls, "link", entries);
        put(calls, "check");
        put(calls, "tick", 1);
        put(calls, "tick", 1000);
    }

    private void walls() {
        for (String name : new String[] {"read", "write"}) {
            for (int user = 0; user < USERS; user++) {
                List<Call> calls = group();
                for (int object = 0; object < objects; object++) {
                    put(calls, name, user, object);
                }
                put(calls, "told", user, 1);
                put(calls, "told", user, 2);
            }
        }
    }

    private void glasses() {
        for (int user = 0; user < USERS; user++) {
            List<Call> calls = group();
            for (int firm = 0; firm < firms; firm++) {
                put(calls, "glass", user, firm, 1);
            }
            put(calls, "told", user, 3);
            put(calls, "glassTold", glasses, 2);
        }
        for (int user = 0; user < 2; user++) {
            List<Call> calls = group();
            put(calls, "roles", user, 128);
            for (int glass = 0; glass < glasses; glass++) {
                put(calls, "takeOff", glass, user);
            }
        }
    }

    private void kinds() {
        for (int kind = 0; kind < kinds; kind++) {
            List<Call> calls = group();
            put(calls, "most", kind, 6);
            for (int a = 0; a < 6; a++) {
                for (int b = 0; b < a; b++) {
                    put(calls, "apart", kind, a, b);
                    put(calls, "bound", kind, a, b);
                }
            }
            put(calls, "task", kind, 0, 0);
            put(calls, "task", kind, 7, 63);
            eachRole(kind);
            togetherAndEachAlone(kind);
        }
    }

    /** Tells roles, and what must be before, of a kind by doing a new case of it last task first. */
    private void eachRole(int kind) {
        List<Call> calls = group();
        put(calls, "open", kind);
        for (int role = 0; role < 8; role++) {
            put(calls, "roles", role, 1 << role);
        }
        put(calls, "canEnd", cases);
        for (int round = 0; round < 2; round++) {
            for (int task = 5; task >= 0; task--) {
                for (int user = 0; user < 8; user++) {
                    put(calls, "perform", task, cases, user);
                }
            }
        }
    }

    /** Tells what is apart, and the most, by a user who is to do all of a case; what is bound, by one for each task. */
    private void togetherAndEachAlone(int kind) {
        for (int step = 0; step <= 1; step++) {
            List<Call> calls = group();
            put(calls, "open", kind);
            for (int user = 0; user < USERS; user++) {
                put(calls, "roles", user, 255);
            }
            for (int task = 0; task < 6; task++) {
                put(calls, "perform", task, cases, task * step);
            }
        }
    }

    private void cases() {
        for (int of = 0; of < cases; of++) {
            List<Call> calls = group();
            for (int task = 0; task < 6; task++) {
                for (int user = 0; user < USERS; user++) {
                    put(calls, "perform", task, of, user);
                }
            }
            put(calls, "canEnd", of);
        }
    }
}

import java.util.ArrayList;
import java.util.List;
import java.util.Random;

/**
 * Long runs of calls drawn from fixed seeds, each answer held against a model that is told as the
 * document tells it: it keeps what happened, and works out every answer from that anew.
 */
public final class ModelRuns {
    private static final int RUNS = 1500, CALLS = 512;

    public static void main(String[] args) {
        int failed = 0;
        for (int seed = 0; seed < RUNS && failed < 10; seed++) {
            if (!agrees(seed)) {
                failed++;
            }
        }
        System.out.println(RUNS - failed + " passed, " + failed + " failed");
        if (failed != 0) {
            System.exit(1);
        }
    }

    private static boolean agrees(int seed) {
        Random random = new Random(seed);
        WallDesk desk = new WallDesk();
        Model model = new Model();
        Draw draw = new Draw(random, seed % 5, model);
        for (int call = 0; call < CALLS; call++) {
            int op = draw.op(call);
            int[] a = draw.arguments(op);
            long got = onDesk(desk, op, a);
            long want = model.answer(op, a);
            if (got != want) {
                System.out.println("seed " + seed + ", call " + call + ": op " + op + "(" + a[0] + ", " + a[1] + ", "
                        + a[2] + ") answered " + got + ", due is " + want);
                return false;
            }
        }
        return true;
    }

    private static long onDesk(WallDesk x, int op, int[] a) {
        switch (op) {
            case 0: return x.tick(a[0]);
            case 1: return x.roles(a[0], a[1]);
            case 2: return x.firm(a[0]);
            case 3: return x.object(a[0]);
            case 4: return x.read(a[0], a[1]);
            case 5: return x.write(a[0], a[1]);
            case 6: return x.glass(a[0], a[1], a[2]);
            case 7: return x.takeOff(a[0], a[1]);
            case 8: return x.kind();
            case 9: return x.task(a[0], a[1], a[2]);
            case 10: return x.apart(a[0], a[1], a[2]);
            case 11: return x.bound(a[0], a[1], a[2]);
            case 12: return x.most(a[0], a[1]);
            case 13: return x.open(a[0]);
            case 14: return x.perform(a[0], a[1], a[2]);
            case 15: return x.canEnd(a[0]);
            case 16: return x.doer(a[0], a[1]);
            case 17: return x.told(a[0], a[1]);
            case 18: return x.glassTold(a[0], a[1]);
            case 19: return x.entry(a[0], a[1]);
            case 20: return x.link(a[0]);
            case 21: return x.alter(a[0], a[1], a[2]);
            case 22: return x.check();
            default: return x.count(a[0]);
        }
    }

    /** Draws calls; the flavour tells which part of the desk is used most. */
    private static final class Draw {
        private static final int[] WALL_OPS = {0, 4, 4, 4, 4, 5, 5, 6, 6, 6, 7, 7, 1, 17, 18, 19, 20};
        private static final int[] CASE_OPS = {1, 9, 10, 11, 12, 13, 14, 14, 14, 14, 14, 14, 15, 15, 16, 8};

        private final Random random;
        private final int flavour;
        private final Model model;

        Draw(Random random, int flavour, Model model) {
            this.random = random;
            this.flavour = flavour;
            this.model = model;
        }

        int op(int call) {
            if (call < 80) {
                int[] first = {1, 1, 2, 3, 3, 8, 9, 9, 9, 9, 10, 11, 12};
                return first[random.nextInt(first.length)];
            }
            int what = random.nextInt(10);
            if (what == 0) {
                return random.nextInt(24);
            }
            boolean walls = flavour < 2 || flavour == 4 && what < 5;
            int[] ops = walls ? WALL_OPS : CASE_OPS;
            return ops[random.nextInt(ops.length)];
        }

        int[] arguments(int op) {
            int[] a = usual(op);
            if (random.nextInt(25) == 0) {
                int[] odd = {-1, -2, 0, 1, 5, 6, 7, 8, 11, 12, 24, 48, 64, 255, 256, 1000, 1001,
                        Integer.MAX_VALUE, Integer.MIN_VALUE};
                a[random.nextInt(3)] = odd[random.nextInt(odd.length)];
            }
            return a;
        }

        private int user() {
            return random.nextInt(flavour == 4 ? 12 : 4);
        }

        /** The number of one that there is, or now and then of the next. */
        private int one(int size) {
            return random.nextInt(random.nextInt(20) == 0 ? size + 1 : Math.max(size, 1));
        }

        private int[] usual(int op) {
            int kind = one(model.kinds.size());
            int tasks = kind < model.kinds.size() ? model.kinds.get(kind).role.size() : 0;
            int of = one(model.cases.size());
            int ofTasks = of < model.cases.size() ? model.cases.get(of).doer.length : 0;
            switch (op) {
                case 0: return three(1 + random.nextInt(random.nextInt(6) == 0 ? 1000 : 20), 0, 0);
                case 1: return three(user(), random.nextInt(3) == 0 ? 128 + random.nextInt(128) : random.nextInt(8), 0);
                case 2: return three(random.nextInt(4) - 1, 0, 0);
                case 3: return three(one(model.firms.size()), 0, 0);
                case 4: case 5: return three(user(), one(model.objects.size()), 0);
                case 6: return three(user(), one(model.firms.size()), 1 + random.nextInt(100));
                case 7: return three(lateOne(model.glasses.size()), user(), 0);
                case 9: return three(kind, random.nextInt(3), random.nextInt(4) == 0 ? random.nextInt(1 << tasks) : 0);
                case 10: case 11: return three(kind, one(tasks), one(tasks));
                case 12: return three(kind, 1 + random.nextInt(6), 0);
                case 13: return three(kind, 0, 0);
                case 14: return three(one(ofTasks), of, user());
                case 15: return three(of, 0, 0);
                case 16: return three(one(ofTasks), of, 0);
                case 17: return three(user(), random.nextInt(4), 0);
                case 18: return three(one(model.glasses.size()), random.nextInt(5), 0);
                case 19: return three(one(model.entries.size()), random.nextInt(5), 0);
                case 20: return three(one(model.entries.size()), 0, 0);
                case 21: return three(one(model.entries.size()), random.nextInt(5), random.nextInt(8));
                default: return three(random.nextInt(7), 0, 0);
            }
        }

        private int lateOne(int size) {
            return Math.max(0, size - 1 - random.nextInt(4));
        }

        private static int[] three(int a, int b, int c) {
            return new int[] {a, b, c};
        }
    }

    /** What happened to one object: who, by a glass or not. */
    private record Touch(int user, int firm, boolean byGlass) {
    }

    private static final class ModelGlass {
        int user, firm, broken, minutes;
        boolean open = true;
    }

    private static final class ModelKind {
        final List<Integer> role = new ArrayList<>();
        final List<Integer> before = new ArrayList<>();
        final List<int[]> apart = new ArrayList<>();
        final List<int[]> bound = new ArrayList<>();
        int most = 6;
    }

    private static final class ModelCase {
        int kind;
        int[] doer;
    }

    private static final class ModelEntry {
        int[] parts;
        long link;
    }

    private static final class Model {
        private int now;
        private final int[] roles = new int[12];
        final List<Integer> firms = new ArrayList<>();
        final List<Integer> objects = new ArrayList<>();
        final List<Touch> touches = new ArrayList<>();
        final List<ModelGlass> glasses = new ArrayList<>();
        final List<ModelKind> kinds = new ArrayList<>();
        final List<ModelCase> cases = new ArrayList<>();
        final List<ModelEntry> entries = new ArrayList<>();

        long answer(int op, int[] a) {
            switch (op) {
                case 0: return tick(a[0]);
                case 1: return roles(a[0], a[1]);
                case 2: return firm(a[0]);
                case 3: return object(a[0]);
                case 4: return touch(a[0], a[1], false);
                case 5: return touch(a[0], a[1], true);
                case 6: return glass(a[0], a[1], a[2]);
                case 7: return takeOff(a[0], a[1]);
                case 8: return kind();
                case 9: return task(a[0], a[1], a[2]);
                case 10: return pair(a[0], a[1], a[2], true);
                case 11: return pair(a[0], a[1], a[2], false);
                case 12: return most(a[0], a[1]);
                case 13: return open(a[0]);
                case 14: return perform(a[0], a[1], a[2]);
                case 15: return in(a[0], cases) ? (canEnd(cases.get(a[0])) ? 1 : 0) : -2;
                case 16: return doer(a[0], a[1]);
                case 17: return told(a[0], a[1]);
                case 18: return glassTold(a[0], a[1]);
                case 19: return in(a[0], entries) && a[1] >= 0 && a[1] < 5 ? entries.get(a[0]).parts[a[1]] : -2;
                case 20: return in(a[0], entries) ? entries.get(a[0]).link : 0;
                case 21: return alter(a[0], a[1], a[2]);
                case 22: return check();
                default: return count(a[0]);
            }
        }

        private static boolean in(int i, List<?> list) {
            return i >= 0 && i < list.size();
        }

        private static boolean user(int u) {
            return u >= 0 && u <= 11;
        }

        private int tick(int minutes) {
            if (minutes < 1 || minutes > 1000) return -2;
            if (now + minutes > 100000) return -3;
            return now += minutes;
        }

        private int roles(int u, int bits) {
            if (!user(u) || bits < 0 || bits > 255) return -2;
            int was = roles[u];
            roles[u] = bits;
            return was;
        }

        private int firm(int where) {
            if (where < -1 || where > 7) return -2;
            if (firms.size() == 24) return -3;
            firms.add(where);
            return firms.size() - 1;
        }

        private int object(int f) {
            if (!in(f, firms)) return -2;
            if (objects.size() == 48) return -3;
            objects.add(f);
            return objects.size() - 1;
        }

        private boolean isOpen(int f) {
            return firms.get(f) == -1;
        }

        private boolean knows(int u, int f) {
            return !isOpen(f) && touches.contains(new Touch(u, f, false));
        }

        private boolean saw(int u, int f) {
            return touches.contains(new Touch(u, f, true));
        }

        private boolean readable(int u, int f) {
            if (isOpen(f) || knows(u, f)) return true;
            for (int g = 0; g < firms.size(); g++) {
                if (firms.get(g).equals(firms.get(f)) && knows(u, g)) return false;
            }
            return true;
        }

        private int wall(int u, int f, boolean writes) {
            if (!readable(u, f)) return -11;
            for (int g = 0; writes && g < firms.size(); g++) {
                if ((knows(u, g) || saw(u, g)) && (isOpen(f) || g != f)) return -12;
            }
            return 0;
        }

        private boolean runs(ModelGlass g) {
            return now < g.broken + g.minutes;
        }

        private boolean runs(int u, int f) {
            return glasses.stream().anyMatch(g -> g.user == u && g.firm == f && runs(g));
        }

        private long duties(int u) {
            return glasses.stream().filter(g -> g.user == u && g.open).count();
        }

        private int touch(int u, int o, boolean writes) {
            if (!user(u) || !in(o, objects)) return -2;
            int f = objects.get(o);
            int wall = wall(u, f, writes);
            boolean byGlass = wall != 0;
            if (byGlass && !runs(u, f)) return wall;
            if (entries.size() == 240) return -3;
            touches.add(new Touch(u, f, byGlass));
            record(writes ? 2 : 1, u, o, byGlass ? 1 : 0);
            return byGlass ? 1 : 0;
        }

        private int glass(int u, int f, int minutes) {
            if (!user(u) || !in(f, firms) || minutes < 1 || minutes > 100) return -2;
            if (readable(u, f)) return -13;
            if (runs(u, f)) return -14;
            if (duties(u) >= 3) return -15;
            for (ModelGlass g : glasses) {
                if (g.user == u && g.open && now >= g.broken + g.minutes + 100) return -15;
            }
            if (glasses.size() == 40 || entries.size() == 240) return -3;
            ModelGlass g = new ModelGlass();
            g.user = u;
            g.firm = f;
            g.broken = now;
            g.minutes = minutes;
            glasses.add(g);
            record(3, u, glasses.size() - 1, f);
            return glasses.size() - 1;
        }

        private int takeOff(int i, int by) {
            if (!in(i, glasses) || !user(by) || !glasses.get(i).open) return -2;
            ModelGlass g = glasses.get(i);
            if (roles[by] < 128) return -18;
            if (g.user == by) return -19;
            if (entries.size() == 240) return -3;
            g.open = false;
            record(4, by, i, 0);
            return Math.max(g.broken + g.minutes + 100 - now, 0);
        }

        private int kind() {
            if (kinds.size() == 4) return -3;
            kinds.add(new ModelKind());
            return kinds.size() - 1;
        }

        private boolean fixed(int k) {
            return !in(k, kinds) || cases.stream().anyMatch(c -> c.kind == k);
        }

        private int task(int k, int role, int before) {
            if (fixed(k) || role < 0 || role > 7 || before < 0) return -2;
            ModelKind kind = kinds.get(k);
            if (before >= Math.pow(2, kind.role.size())) return -2;
            if (kind.role.size() == 6) return -3;
            kind.role.add(role);
            kind.before.add(before);
            return kind.role.size() - 1;
        }

        private static boolean joined(List<int[]> pairs, int a, int b) {
            return pairs.stream().anyMatch(p -> p[0] == a && p[1] == b || p[0] == b && p[1] == a);
        }

        private int pair(int k, int a, int b, boolean apart) {
            if (fixed(k) || !in(a, kinds.get(k).role) || !in(b, kinds.get(k).role) || a == b) return -2;
            List<int[]> pairs = apart ? kinds.get(k).apart : kinds.get(k).bound;
            if (joined(pairs, a, b)) return 0;
            pairs.add(new int[] {a, b});
            return 1;
        }

        private int most(int k, int n) {
            if (fixed(k) || n < 1 || n > 6) return -2;
            int was = kinds.get(k).most;
            kinds.get(k).most = n;
            return was;
        }

        private int open(int k) {
            if (!in(k, kinds) || kinds.get(k).role.isEmpty()) return -2;
            if (cases.size() == 16) return -3;
            ModelCase c = new ModelCase();
            c.kind = k;
            c.doer = new int[kinds.get(k).role.size()];
            java.util.Arrays.fill(c.doer, -1);
            cases.add(c);
            return cases.size() - 1;
        }

        /** What a user's doing a task breaks with those that have a doer: 0, APART, BOUND or MOST. */
        private int broken(ModelKind kind, int[] doer, int task, int u) {
            int own = 0;
            boolean bound = false;
            for (int t = 0; t < doer.length; t++) {
                if (doer[t] == u) own++;
                if (doer[t] == u && joined(kind.apart, t, task)) return -19;
                if (doer[t] != -1 && doer[t] != u && joined(kind.bound, t, task)) bound = true;
            }
            if (bound) return -20;
            return own + 1 > kind.most ? -21 : 0;
        }

        private boolean canEnd(ModelCase c) {
            return canEnd(kinds.get(c.kind), c.doer.clone(), 0);
        }

        private boolean canEnd(ModelKind kind, int[] doer, int task) {
            if (task == doer.length) return true;
            if (doer[task] != -1) return canEnd(kind, doer, task + 1);
            for (int u = 0; u < 12; u++) {
                if ((roles[u] >> kind.role.get(task)) % 2 == 1 && broken(kind, doer, task, u) == 0) {
                    doer[task] = u;
                    if (canEnd(kind, doer, task + 1)) return true;
                    doer[task] = -1;
                }
            }
            return false;
        }

        private int perform(int t, int of, int u) {
            if (!in(of, cases) || !user(u) || t < 0 || t >= cases.get(of).doer.length) return -2;
            ModelCase c = cases.get(of);
            ModelKind kind = kinds.get(c.kind);
            if (c.doer[t] != -1) return -16;
            for (int b = 0; b < t; b++) {
                if ((kind.before.get(t) >> b) % 2 == 1 && c.doer[b] == -1) return -17;
            }
            if ((roles[u] >> kind.role.get(t)) % 2 == 0) return -18;
            int broken = broken(kind, c.doer, t, u);
            if (broken != 0) return broken;
            boolean could = canEnd(c);
            c.doer[t] = u;
            int answer = could && !canEnd(c) ? -22 : entries.size() == 240 ? -3 : 0;
            if (answer != 0) {
                c.doer[t] = -1;
                return answer;
            }
            record(5, u, 8 * of + t, 0);
            return (int) java.util.Arrays.stream(c.doer).filter(d -> d == -1).count();
        }

        private int doer(int t, int of) {
            if (!in(of, cases) || t < 0 || t >= cases.get(of).doer.length) return -2;
            return cases.get(of).doer[t];
        }

        private int told(int u, int what) {
            if (!user(u) || what < 0 || what > 3) return -2;
            if (what == 0) return roles[u];
            if (what == 3) return (int) duties(u);
            int bits = 0;
            for (int f = 0; f < firms.size(); f++) {
                if (what == 1 ? knows(u, f) : saw(u, f)) bits += 1 << f;
            }
            return bits;
        }

        private int glassTold(int i, int what) {
            if (!in(i, glasses)) return -2;
            ModelGlass g = glasses.get(i);
            switch (what) {
                case 0: return g.user;
                case 1: return g.firm;
                case 2: return g.broken + g.minutes;
                case 3: return runs(g) ? 1 : 0;
                case 4: return g.open ? 1 : 0;
                default: return -2;
            }
        }

        private int alter(int i, int what, int v) {
            if (!in(i, entries) || what < 0 || what > 4) return -2;
            int was = entries.get(i).parts[what];
            entries.get(i).parts[what] = v;
            return was;
        }

        private void record(int sort, int u, int what, int how) {
            ModelEntry e = new ModelEntry();
            e.parts = new int[] {sort, u, what, how, now};
            e.link = linkOf(entries.isEmpty() ? 1 : entries.get(entries.size() - 1).link, e.parts);
            entries.add(e);
        }

        private static long linkOf(long before, int[] p) {
            long x = before * -7046029254386353131L + p[0];
            x = (x ^ (x >>> 29)) * -4658895280553007687L + p[1];
            x = (x ^ (x >>> 29)) * -4658895280553007687L + p[2];
            x = (x ^ (x >>> 29)) * -4658895280553007687L + p[3];
            x = (x ^ (x >>> 32)) * -7723592293110705685L + p[4];
            return x ^ (x >>> 31);
        }

        private int check() {
            long before = 1;
            for (int i = 0; i < entries.size(); i++) {
                if (entries.get(i).link != linkOf(before, entries.get(i).parts)) return i;
                before = entries.get(i).link;
            }
            return -1;
        }

        private int count(int what) {
            switch (what) {
                case 0: return now;
                case 1: return firms.size();
                case 2: return objects.size();
                case 3: return glasses.size();
                case 4: return kinds.size();
                case 5: return cases.size();
                case 6: return entries.size();
                default: return -2;
            }
        }
    }
}

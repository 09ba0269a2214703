/**
 * A desk for walls between rival firms, tasks in cases, glasses to be broken, and a record.
 * What each call answers is told by the document's promises; README.md says how to use it.
 */
public final class WallDesk {
    public static final int NONE = -1, BAD = -2, FULL = -3, WALL = -11, LEAK = -12, NEEDLESS = -13, RUNS = -14,
            OWES = -15, DONE = -16, EARLY = -17, ROLE = -18, APART = -19, BOUND = -20, MOST = -21, STUCK = -22;

    private static final int GRANTED = 0;

    private static final int USERS = 12, ROLE_BITS = 8, SUPERVISOR = 7;
    private static final int FIRMS = 24, CLASSES = 8, OBJECTS = 48;
    private static final int GLASSES = 40, LONGEST_GLASS = 100, DUTY_MINUTES = 100, MOST_DUTIES = 3;
    private static final int KINDS = 4, TASKS = 6, CASES = 16;
    private static final int LONGEST_TICK = 1000, LAST_MINUTE = 100000;

    private static final int OBJECT_READ = 1, OBJECT_WRITTEN = 2, GLASS_BROKEN = 3, DUTY_TAKEN_OFF = 4, TASK_DONE = 5;

    private final int[] rolesOf = new int[USERS];
    private final Walls walls = new Walls();
    private final Glasses glasses = new Glasses();
    private final Kind[] kinds = new Kind[KINDS];
    private final Case[] cases = new Case[CASES];
    private final Log log = new Log();
    private int kindCount;
    private int caseCount;
    private int now;

    public WallDesk() {
    }

    public int tick(int minutes) {
        if (minutes < 1 || minutes > LONGEST_TICK) {
            return BAD;
        }
        if (now + minutes > LAST_MINUTE) {
            return FULL;
        }
        now += minutes;
        return now;
    }

    public int roles(int user, int bits) {
        if (!isUser(user) || bits < 0 || bits >= 1 << ROLE_BITS) {
            return BAD;
        }
        int before = rolesOf[user];
        rolesOf[user] = bits;
        return before;
    }

    public int firm(int where) {
        if (where != NONE && !isBelow(where, CLASSES)) {
            return BAD;
        }
        return walls.addFirm(where);
    }

    public int object(int firm) {
        if (!walls.hasFirm(firm)) {
            return BAD;
        }
        return walls.addObject(firm);
    }

    public int read(int user, int object) {
        return reach(OBJECT_READ, user, object);
    }

    public int write(int user, int object) {
        return reach(OBJECT_WRITTEN, user, object);
    }

    public int glass(int user, int firm, int minutes) {
        if (!isUser(user) || !walls.hasFirm(firm) || minutes < 1 || minutes > LONGEST_GLASS) {
            return BAD;
        }
        if (walls.letRead(user, firm)) {
            return NEEDLESS;
        }
        if (glasses.anyRuns(user, firm, now)) {
            return RUNS;
        }
        if (glasses.openDuties(user) >= MOST_DUTIES || glasses.anyDue(user, now)) {
            return OWES;
        }
        if (glasses.isFull() || log.isFull()) {
            return FULL;
        }
        int number = glasses.addGlass(user, firm, now + minutes);
        log.add(GLASS_BROKEN, user, number, firm, now);
        return number;
    }

    public int takeOff(int glass, int by) {
        if (!glasses.has(glass) || !isUser(by) || !glasses.dutyOpen[glass]) {
            return BAD;
        }
        if (!hasBit(rolesOf[by], SUPERVISOR)) {
            return ROLE;
        }
        if (glasses.user[glass] == by) {
            return APART;
        }
        if (log.isFull()) {
            return FULL;
        }
        glasses.dutyOpen[glass] = false;
        log.add(DUTY_TAKEN_OFF, by, glass, 0, now);
        return Math.max(0, glasses.due(glass) - now);
    }

    public int kind() {
        if (kindCount >= KINDS) {
            return FULL;
        }
        kinds[kindCount] = new Kind();
        kindCount++;
        return kindCount - 1;
    }

    public int task(int kind, int role, int before) {
        Kind k = alterableKind(kind);
        if (k == null || !isBelow(role, ROLE_BITS) || (before & ~k.taskBits()) != 0) {
            return BAD;
        }
        return k.addTask(role, before);
    }

    public int apart(int kind, int a, int b) {
        Kind k = alterableKind(kind);
        if (k == null || !k.arePair(a, b)) {
            return BAD;
        }
        return joinPair(k.apartFrom, a, b);
    }

    public int bound(int kind, int a, int b) {
        Kind k = alterableKind(kind);
        if (k == null || !k.arePair(a, b)) {
            return BAD;
        }
        return joinPair(k.boundTo, a, b);
    }

    public int most(int kind, int n) {
        Kind k = alterableKind(kind);
        if (k == null || n < 1 || n > TASKS) {
            return BAD;
        }
        int before = k.most;
        k.most = n;
        return before;
    }

    public int open(int kind) {
        Kind k = kindAt(kind);
        if (k == null || k.tasks == 0) {
            return BAD;
        }
        if (caseCount >= CASES) {
            return FULL;
        }
        k.hasCases = true;
        cases[caseCount] = new Case(k);
        caseCount++;
        return caseCount - 1;
    }

    public int perform(int task, int of, int user) {
        Case c = caseAt(of);
        if (c == null || !c.kind.hasTask(task) || !isUser(user)) {
            return BAD;
        }
        int verdict = c.verdict(task, user, rolesOf);
        if (verdict != GRANTED) {
            return verdict;
        }
        if (log.isFull()) {
            return FULL;
        }
        c.doerOf[task] = user;
        log.add(TASK_DONE, user, 8 * of + task, 0, now);
        return Integer.bitCount(c.leftBits());
    }

    public int canEnd(int of) {
        Case c = caseAt(of);
        if (c == null) {
            return BAD;
        }
        return asNumber(c.couldEnd(rolesOf));
    }

    public int doer(int task, int of) {
        Case c = caseAt(of);
        if (c == null || !c.kind.hasTask(task)) {
            return BAD;
        }
        return c.doerOf[task];
    }

    public int told(int user, int what) {
        if (!isUser(user)) {
            return BAD;
        }
        switch (what) {
            case 0: return rolesOf[user];
            case 1: return walls.known[user];
            case 2: return walls.seen[user];
            case 3: return glasses.openDuties(user);
            default: return BAD;
        }
    }

    public int glassTold(int glass, int what) {
        if (!glasses.has(glass)) {
            return BAD;
        }
        switch (what) {
            case 0: return glasses.user[glass];
            case 1: return glasses.firm[glass];
            case 2: return glasses.end[glass];
            case 3: return asNumber(glasses.runs(glass, now));
            case 4: return asNumber(glasses.dutyOpen[glass]);
            default: return BAD;
        }
    }

    public int entry(int i, int what) {
        if (!log.hasCell(i, what)) {
            return BAD;
        }
        return log.cells[i * Log.WIDTH + what];
    }

    public long link(int i) {
        if (!log.hasEntry(i)) {
            return 0;
        }
        return log.links[i];
    }

    public int alter(int i, int what, int v) {
        if (!log.hasCell(i, what)) {
            return BAD;
        }
        int before = log.cells[i * Log.WIDTH + what];
        log.cells[i * Log.WIDTH + what] = v;
        return before;
    }

    public int check() {
        return log.firstWrong();
    }

    public int count(int what) {
        switch (what) {
            case 0: return now;
            case 1: return walls.firms;
            case 2: return walls.objects;
            case 3: return glasses.size;
            case 4: return kindCount;
            case 5: return caseCount;
            case 6: return log.size;
            default: return BAD;
        }
    }

    private int reach(int sort, int user, int object) {
        if (!isUser(user) || !walls.hasObject(object)) {
            return BAD;
        }
        int firm = walls.firmOf[object];
        int verdict = sort == OBJECT_WRITTEN ? walls.onWriting(user, firm) : walls.onReading(user, firm);
        boolean byGlass = verdict != GRANTED;
        if (byGlass && !glasses.anyRuns(user, firm, now)) {
            return verdict;
        }
        if (log.isFull()) {
            return FULL;
        }
        if (byGlass) {
            walls.showFirm(user, firm);
        } else {
            walls.teachFirm(user, firm);
        }
        log.add(sort, user, object, asNumber(byGlass), now);
        return asNumber(byGlass);
    }

    private Kind kindAt(int kind) {
        return isBelow(kind, kindCount) ? kinds[kind] : null;
    }

    private Kind alterableKind(int kind) {
        Kind k = kindAt(kind);
        return k == null || k.hasCases ? null : k;
    }

    private Case caseAt(int of) {
        return isBelow(of, caseCount) ? cases[of] : null;
    }

    private static boolean isUser(int user) {
        return isBelow(user, USERS);
    }

    private static boolean isBelow(int number, int count) {
        return number >= 0 && number < count;
    }

    private static boolean hasBit(int bits, int i) {
        return (bits >>> i & 1) != 0;
    }

    private static int asNumber(boolean yes) {
        return yes ? 1 : 0;
    }

    private static int joinPair(int[] partners, int a, int b) {
        boolean isNew = !hasBit(partners[a], b);
        partners[a] |= 1 << b;
        partners[b] |= 1 << a;
        return asNumber(isNew);
    }

    /** The firms and objects there are, and, as bits, the firms that each user knows or saw. */
    private static final class Walls {
        private final int[] classOf = new int[FIRMS];
        private final int[] firmsOf = new int[CLASSES];
        private final int[] firmOf = new int[OBJECTS];
        private final int[] known = new int[USERS];
        private final int[] seen = new int[USERS];
        private int firms;
        private int objects;

        private boolean hasFirm(int firm) {
            return isBelow(firm, firms);
        }

        private boolean hasObject(int object) {
            return isBelow(object, objects);
        }

        private int addFirm(int where) {
            if (firms >= FIRMS) {
                return FULL;
            }
            classOf[firms] = where;
            if (where != NONE) {
                firmsOf[where] |= 1 << firms;
            }
            firms++;
            return firms - 1;
        }

        private int addObject(int firm) {
            if (objects >= OBJECTS) {
                return FULL;
            }
            firmOf[objects] = firm;
            objects++;
            return objects - 1;
        }

        private boolean letRead(int user, int firm) {
            int where = classOf[firm];
            return where == NONE || hasBit(known[user], firm) || (known[user] & firmsOf[where]) == 0;
        }

        private int onReading(int user, int firm) {
            return letRead(user, firm) ? GRANTED : WALL;
        }

        private int onWriting(int user, int firm) {
            if (!letRead(user, firm)) {
                return WALL;
            }
            // An open firm is never known or seen itself, so this one test holds for it too.
            int others = (known[user] | seen[user]) & ~(1 << firm);
            return others == 0 ? GRANTED : LEAK;
        }

        private void teachFirm(int user, int firm) {
            if (classOf[firm] != NONE) {
                known[user] |= 1 << firm;
            }
        }

        private void showFirm(int user, int firm) {
            seen[user] |= 1 << firm;
        }
    }

    /** The glasses that were broken, each with its duty. */
    private static final class Glasses {
        private final int[] user = new int[GLASSES];
        private final int[] firm = new int[GLASSES];
        private final int[] end = new int[GLASSES];
        private final boolean[] dutyOpen = new boolean[GLASSES];
        private int size;

        private boolean has(int glass) {
            return isBelow(glass, size);
        }

        private boolean isFull() {
            return size >= GLASSES;
        }

        private int addGlass(int breaker, int forFirm, int until) {
            user[size] = breaker;
            firm[size] = forFirm;
            end[size] = until;
            dutyOpen[size] = true;
            size++;
            return size - 1;
        }

        private boolean runs(int glass, int now) {
            return now < end[glass];
        }

        private int due(int glass) {
            return end[glass] + DUTY_MINUTES;
        }

        private boolean anyRuns(int breaker, int forFirm, int now) {
            for (int i = 0; i < size; i++) {
                if (user[i] == breaker && firm[i] == forFirm && runs(i, now)) {
                    return true;
                }
            }
            return false;
        }

        private int openDuties(int breaker) {
            int open = 0;
            for (int i = 0; i < size; i++) {
                if (user[i] == breaker && dutyOpen[i]) {
                    open++;
                }
            }
            return open;
        }

        private boolean anyDue(int breaker, int now) {
            for (int i = 0; i < size; i++) {
                if (user[i] == breaker && dutyOpen[i] && now >= due(i)) {
                    return true;
                }
            }
            return false;
        }
    }

    /** A kind of case: its tasks, and which of them one user may do together. Sets of tasks are bits. */
    private static final class Kind {
        private final int[] roleOf = new int[TASKS];
        private final int[] mustPrecede = new int[TASKS];
        private final int[] apartFrom = new int[TASKS];
        private final int[] boundTo = new int[TASKS];
        private int tasks;
        private int most = TASKS;
        private boolean hasCases;

        private boolean hasTask(int task) {
            return isBelow(task, tasks);
        }

        private boolean arePair(int a, int b) {
            return hasTask(a) && hasTask(b) && a != b;
        }

        private int taskBits() {
            return (1 << tasks) - 1;
        }

        private int addTask(int role, int before) {
            if (tasks >= TASKS) {
                return FULL;
            }
            roleOf[tasks] = role;
            mustPrecede[tasks] = before;
            tasks++;
            return tasks - 1;
        }

        private int tasksWithin(int roles) {
            int set = 0;
            for (int task = 0; task < tasks; task++) {
                if (hasBit(roles, roleOf[task])) {
                    set |= 1 << task;
                }
            }
            return set;
        }

        /** Whether one user may do just the tasks of this set, and others all the rest. */
        private boolean allows(int set) {
            if (Integer.bitCount(set) > most) {
                return false;
            }
            for (int task = 0; task < tasks; task++) {
                if (hasBit(set, task) && ((apartFrom[task] & set) != 0 || (boundTo[task] & ~set) != 0)) {
                    return false;
                }
            }
            return true;
        }
    }

    /** A case of a kind: who did its tasks, and whether the rest can still be shared out. */
    private static final class Case {
        /** Bit m of the long at t tells whether the set of tasks m is without task t. */
        private static final long[] SETS_WITHOUT = {
            0x5555555555555555L, 0x3333333333333333L, 0x0F0F0F0F0F0F0F0FL,
            0x00FF00FF00FF00FFL, 0x0000FFFF0000FFFFL, 0x00000000FFFFFFFFL
        };

        private final Kind kind;
        private final int[] doerOf = {NONE, NONE, NONE, NONE, NONE, NONE};

        private Case(Kind kind) {
            this.kind = kind;
        }

        private int bitsDoneBy(int user) {
            int set = 0;
            for (int task = 0; task < kind.tasks; task++) {
                if (doerOf[task] == user) {
                    set |= 1 << task;
                }
            }
            return set;
        }

        private int leftBits() {
            return bitsDoneBy(NONE);
        }

        private int verdict(int task, int user, int[] rolesOf) {
            int done = kind.taskBits() & ~leftBits();
            int own = bitsDoneBy(user);
            if (hasBit(done, task)) {
                return DONE;
            }
            if ((kind.mustPrecede[task] & ~done) != 0) {
                return EARLY;
            }
            if (!hasBit(rolesOf[user], kind.roleOf[task])) {
                return ROLE;
            }
            if ((kind.apartFrom[task] & own) != 0) {
                return APART;
            }
            if ((kind.boundTo[task] & done & ~own) != 0) {
                return BOUND;
            }
            if (Integer.bitCount(own) >= kind.most) {
                return MOST;
            }
            return wouldStick(task, user, rolesOf) ? STUCK : GRANTED;
        }

        private boolean wouldStick(int task, int user, int[] rolesOf) {
            if (!couldEnd(rolesOf)) {
                return false;
            }
            doerOf[task] = user;
            boolean sticks = !couldEnd(rolesOf);
            doerOf[task] = NONE;
            return sticks;
        }

        /**
         * Goes user by user, not task by task: that takes 12 times 64 steps, where trying every
         * user for every task could take 12 to the 6th. Bit m of shared tells whether the users
         * looked at so far could do the set of tasks m between them.
         */
        private boolean couldEnd(int[] rolesOf) {
            int left = leftBits();
            long shared = 1;
            for (int user = 0; user < USERS; user++) {
                int open = left & kind.tasksWithin(rolesOf[user]);
                shared = sharedWith(shared, open, bitsDoneBy(user));
            }
            return (shared >>> left & 1) != 0;
        }

        private long sharedWith(long shared, int open, int own) {
            long next = 0;
            for (int load = 0; load <= open; load++) {
                if ((load & ~open) == 0 && kind.allows(own | load)) {
                    // Sets that have no task in common join by adding up, which is a shift here.
                    next |= (shared & setsWithoutAnyOf(load)) << load;
                }
            }
            return next;
        }

        private static long setsWithoutAnyOf(int load) {
            long sets = -1;
            for (int task = 0; task < TASKS; task++) {
                if (hasBit(load, task)) {
                    sets &= SETS_WITHOUT[task];
                }
            }
            return sets;
        }
    }

    /** The record: entries of five cells each, and the link of each entry. */
    private static final class Log {
        private static final int ENTRIES = 240, WIDTH = 5;

        private final int[] cells = new int[ENTRIES * WIDTH];
        private final long[] links = new long[ENTRIES];
        private int size;

        private boolean isFull() {
            return size >= ENTRIES;
        }

        private boolean hasEntry(int i) {
            return isBelow(i, size);
        }

        private boolean hasCell(int i, int what) {
            return hasEntry(i) && isBelow(what, WIDTH);
        }

        private void add(int sort, int user, int what, int how, int now) {
            int at = size * WIDTH;
            cells[at] = sort;
            cells[at + 1] = user;
            cells[at + 2] = what;
            cells[at + 3] = how;
            cells[at + 4] = now;
            links[size] = linkDue(size);
            size++;
        }

        private long linkDue(int i) {
            int at = i * WIDTH;
            long x = (i == 0 ? 1 : links[i - 1]) * -7046029254386353131L + cells[at];
            for (int what = 1; what <= 3; what++) {
                x = x ^ (x >>> 29);
                x = x * -4658895280553007687L + cells[at + what];
            }
            x = x ^ (x >>> 32);
            x = x * -7723592293110705685L + cells[at + 4];
            return x ^ (x >>> 31);
        }

        private int firstWrong() {
            for (int i = 0; i < size; i++) {
                if (links[i] != linkDue(i)) {
                    return i;
                }
            }
            return NONE;
        }
    }
}

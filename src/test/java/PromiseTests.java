/** For each promise: ordinary inputs, the edges that the document names, and wrong inputs. */
public final class PromiseTests {
    private static final int[] EXTREMES = {Integer.MIN_VALUE, -3, -2, -1, 100001, Integer.MAX_VALUE};

    private static int promise;
    private static int failed;
    private static int passed;

    private static void due(String what, long got, long want) {
        if (got == want) {
            passed++;
        } else {
            failed++;
            System.out.println("promise " + promise + ": " + what + " answered " + got + ", due is " + want);
        }
    }

    public static void main(String[] args) {
        newObject();
        tick();
        roles();
        firm();
        object();
        read();
        write();
        openFirms();
        glassRefusals();
        glassLimits();
        glassOrder();
        takeOff();
        kind();
        task();
        apart();
        bound();
        most();
        open();
        performRefusals();
        performOrder();
        performStuck();
        performLimits();
        canEnd();
        canEndAllTogether();
        doer();
        told();
        glassTold();
        entry();
        link();
        alter();
        check();
        count();
        fullRecord();
        System.out.println(passed + " passed, " + failed + " failed");
        if (failed != 0) {
            System.exit(1);
        }
    }

    private static void newObject() {
        promise = 1;
        WallDesk x = new WallDesk();
        for (int what = 0; what <= 6; what++) {
            due("count(" + what + ") of a new desk", x.count(what), 0);
        }
        for (int user = 0; user < 12; user++) {
            for (int what = 0; what <= 3; what++) {
                due("told(" + user + ", " + what + ") of a new desk", x.told(user, what), 0);
            }
        }
        due("object(0) without firms", x.object(0), -2);
        due("read(0, 0) without objects", x.read(0, 0), -2);
        due("write(0, 0) without objects", x.write(0, 0), -2);
        due("glass(0, 0, 1) without firms", x.glass(0, 0, 1), -2);
        due("takeOff(0, 0) without glasses", x.takeOff(0, 0), -2);
        due("task(0, 0, 0) without kinds", x.task(0, 0, 0), -2);
        due("open(0) without kinds", x.open(0), -2);
        due("canEnd(0) without cases", x.canEnd(0), -2);
        due("check() of a new desk", x.check(), -1);
        WallDesk other = new WallDesk();
        x.firm(0);
        x.tick(5);
        due("another desk keeps its own firms", other.count(1), 0);
        due("another desk keeps its own minute", other.count(0), 0);
    }

    private static void tick() {
        promise = 2;
        WallDesk x = new WallDesk();
        due("tick(1)", x.tick(1), 1);
        due("tick(0)", x.tick(0), -2);
        due("tick(1001)", x.tick(1001), -2);
        for (int v : EXTREMES) {
            due("tick(" + v + ")", x.tick(v), -2);
        }
        due("NOW after refusals", x.count(0), 1);
        for (int i = 1; i <= 99; i++) {
            due("tick(1000)", x.tick(1000), 1000 * i + 1);
        }
        due("tick(1000) beyond the end", x.tick(1000), -3);
        due("tick(1001) beyond the end is BAD first", x.tick(1001), -2);
        due("NOW after FULL", x.count(0), 99001);
        due("tick(999) to the end", x.tick(999), 100000);
        due("tick(1) behind the end", x.tick(1), -3);
        due("NOW at the end", x.count(0), 100000);
    }

    private static void roles() {
        promise = 3;
        WallDesk x = new WallDesk();
        due("roles(0, 255)", x.roles(0, 255), 0);
        due("roles(0, 256)", x.roles(0, 256), -2);
        due("roles(11, 1)", x.roles(11, 1), 0);
        due("roles(12, 1)", x.roles(12, 1), -2);
        for (int v : EXTREMES) {
            due("roles(" + v + ", 1)", x.roles(v, 1), -2);
            due("roles(0, " + v + ")", x.roles(0, v), -2);
        }
        due("roles(0, 3) after 255", x.roles(0, 3), 255);
        due("roles(0, 0) after 3", x.roles(0, 0), 3);
        due("roles of 11", x.told(11, 0), 1);
        due("roles of 10", x.told(10, 0), 0);
    }

    private static void firm() {
        promise = 4;
        WallDesk x = new WallDesk();
        due("firm(8)", x.firm(8), -2);
        for (int v : EXTREMES) {
            due("firm(" + v + ")", x.firm(v), v == -1 ? 0 : -2);
        }
        for (int i = 1; i < 24; i++) {
            due("firm(" + i % 8 + ")", x.firm(i % 8), i);
        }
        due("firm(0) when full", x.firm(0), -3);
        due("firm(-1) when full", x.firm(-1), -3);
        due("firm(8) when full", x.firm(8), -2);
        due("firms", x.count(1), 24);
    }

    private static void object() {
        promise = 5;
        WallDesk x = new WallDesk();
        x.firm(0);
        x.firm(-1);
        due("object(2)", x.object(2), -2);
        for (int v : EXTREMES) {
            due("object(" + v + ")", x.object(v), -2);
        }
        for (int i = 0; i < 48; i++) {
            due("object(" + i % 2 + ")", x.object(i % 2), i);
        }
        due("object(0) when full", x.object(0), -3);
        due("object(2) when full", x.object(2), -2);
        due("objects", x.count(2), 48);
    }

    /** Firms 0 and 1 of class 0, 2 of class 7, 3 open, 4 of class 0; object i is of firm i. */
    private static WallDesk fiveFirms() {
        WallDesk x = new WallDesk();
        int[] classes = {0, 0, 7, -1, 0};
        for (int i = 0; i < classes.length; i++) {
            x.firm(classes[i]);
            x.object(i);
        }
        return x;
    }

    private static void read() {
        promise = 6;
        WallDesk x = fiveFirms();
        due("read(0, 5)", x.read(0, 5), -2);
        due("read(12, 0)", x.read(12, 0), -2);
        for (int v : EXTREMES) {
            due("read(" + v + ", 0)", x.read(v, 0), -2);
            due("read(0, " + v + ")", x.read(0, v), -2);
        }
        due("entries after BAD", x.count(6), 0);
        due("first of a class", x.read(0, 0), 0);
        due("a rival", x.read(0, 1), -11);
        due("another rival", x.read(0, 4), -11);
        due("the same again", x.read(0, 0), 0);
        due("another class", x.read(0, 2), 0);
        due("open", x.read(0, 3), 0);
        due("user 11 is free", x.read(11, 4), 0);
        due("rival of user 11", x.read(11, 0), -11);
        due("knows firms 0 and 2, not the open one", x.told(0, 1), 5);
        due("saw nothing", x.told(0, 2), 0);
        due("entries: granted ones alone", x.count(6), 5);
        x.firm(7);
        x.object(5);
        due("a rival that came later", x.read(0, 5), -11);
        due("glass for firm 1", x.glass(0, 1, 2), 0);
        due("by the glass", x.read(0, 1), 1);
        due("by no glass for firm 4", x.read(0, 4), -11);
        due("a glass is its own user's", x.read(11, 1), -11);
        due("saw firm 1", x.told(0, 2), 2);
        due("knows no more", x.told(0, 1), 5);
        x.tick(1);
        due("by the glass, last minute", x.read(0, 1), 1);
        due("own firm while the glass runs", x.read(0, 0), 0);
        x.tick(1);
        due("glass has run out", x.read(0, 1), -11);
        due("what is seen stays", x.told(0, 2), 2);
    }

    private static void write() {
        promise = 7;
        WallDesk x = fiveFirms();
        due("write(0, 5)", x.write(0, 5), -2);
        due("write(12, 0)", x.write(12, 0), -2);
        for (int v : EXTREMES) {
            due("write(" + v + ", 0)", x.write(v, 0), -2);
            due("write(0, " + v + ")", x.write(0, v), -2);
        }
        due("first write", x.write(0, 0), 0);
        due("who writes knows", x.told(0, 1), 1);
        due("write again", x.write(0, 0), 0);
        due("rival", x.write(0, 1), -11);
        due("another class", x.write(0, 2), -12);
        due("open after knowing", x.write(0, 3), -12);
        due("a write walls off a read", x.read(0, 1), -11);
        due("read another", x.read(0, 2), 0);
        due("own firm after knowing another", x.write(0, 0), -12);
        due("rival: WALL before LEAK", x.write(0, 1), -11);
        due("open by one who knows nothing", x.write(1, 3), 0);
        due("open is not known", x.told(1, 1), 0);
        due("open read by one who knows nothing", x.read(1, 3), 0);
        due("write after open ones alone", x.write(1, 2), 0);
        due("glass", x.glass(0, 1, 10), 0);
        due("write by the glass, whatever WALL and LEAK say", x.write(0, 1), 1);
        due("saw", x.told(0, 2), 2);
        due("knows no more", x.told(0, 1), 5);

        x = fiveFirms();
        x.read(0, 0);
        x.glass(0, 1, 10);
        due("own firm before seeing", x.write(0, 0), 0);
        due("see a rival", x.read(0, 1), 1);
        due("own firm after seeing a rival", x.write(0, 0), -12);
        due("open after seeing a rival", x.write(0, 3), -12);
        due("reading own goes on", x.read(0, 0), 0);
        x.tick(10);
        due("a leak stays when the glass is over", x.write(0, 0), -12);
        due("glass over", x.write(0, 1), -11);
    }

    private static void openFirms() {
        promise = 7;
        WallDesk x = new WallDesk();
        x.firm(-1);
        x.firm(-1);
        x.object(0);
        x.object(1);
        due("read one open firm", x.read(0, 0), 0);
        due("open firms are no rivals", x.read(0, 1), 0);
        due("open firms leak nothing", x.write(0, 0), 0);
        due("nor do they then", x.write(0, 1), 0);
        due("no open firm is known", x.told(0, 1), 0);
    }

    private static void glassRefusals() {
        promise = 8;
        WallDesk x = fiveFirms();
        due("no such firm", x.glass(0, 5, 1), -2);
        due("no such user", x.glass(12, 0, 1), -2);
        due("no minutes", x.glass(0, 0, 0), -2);
        due("101 minutes", x.glass(0, 0, 101), -2);
        for (int v : EXTREMES) {
            due("glass(" + v + ", 0, 1)", x.glass(v, 0, 1), -2);
            due("glass(0, " + v + ", 1)", x.glass(0, v, 1), -2);
            due("glass(0, 0, " + v + ")", x.glass(0, 0, v), -2);
        }
        due("none known of its class", x.glass(0, 0, 1), -13);
        x.read(0, 0);
        due("known", x.glass(0, 0, 1), -13);
        due("open", x.glass(0, 3, 1), -13);
        due("another class", x.glass(0, 2, 1), -13);
        due("walls refuse reading", x.glass(0, 1, 100), 0);
        due("runs", x.glass(0, 1, 1), -14);
        due("a firm without objects, of a known class", x.firm(0), 5);
        due("its glass", x.glass(0, 5, 1), 1);
        due("leak alone is no need", x.glass(0, 2, 1), -13);
        x.tick(99);
        due("runs in its last minute", x.glass(0, 1, 1), -14);
        x.tick(1);
        due("runs no more", x.glass(0, 1, 1), 2);
        x.tick(1);
        due("three duties", x.glass(0, 1, 1), -15);
        due("NEEDLESS before OWES", x.glass(0, 0, 1), -13);
        due("another user owes nothing", x.write(1, 1), 0);
        due("another user's glass", x.glass(1, 0, 1), 3);
        x.roles(1, 128);
        due("off", x.takeOff(1, 1), 0);
        due("two duties", x.glass(0, 1, 3), 4);
        due("RUNS before OWES", x.glass(0, 1, 3), -14);
    }

    private static void glassLimits() {
        promise = 8;
        threeDuties();
        WallDesk x = fiveFirms();
        x.read(0, 0);
        due("glass ends at 1, due at 101", x.glass(0, 1, 1), 0);
        x.tick(100);
        due("a minute before it is due", x.glass(0, 1, 1), 1);
        x.tick(1);
        due("in its due minute", x.glass(0, 1, 1), -15);
        x.roles(2, 128);
        x.takeOff(0, 2);
        due("that duty is off", x.glass(0, 1, 1), 2);
        x.tick(1000);
        due("long behind", x.glass(0, 1, 1), -15);

        x = fiveFirms();
        x.roles(11, 128);
        x.read(0, 0);
        for (int i = 0; i < 40; i++) {
            due("glass " + i, x.glass(0, 1, 1), i);
            due("off " + i, x.takeOff(i, 11), 101);
            x.tick(1);
        }
        due("forty glasses", x.glass(0, 1, 1), -3);
        due("BAD before FULL", x.glass(0, 1, 101), -2);
        due("NEEDLESS before FULL", x.glass(0, 0, 1), -13);
        due("glasses", x.count(3), 40);
        due("a full row of glasses stops no reading", x.read(0, 0), 0);
    }

    private static void threeDuties() {
        WallDesk x = fiveFirms();
        x.firm(0);
        x.firm(0);
        x.read(0, 0);
        due("first", x.glass(0, 1, 100), 0);
        due("second", x.glass(0, 4, 100), 1);
        due("third", x.glass(0, 5, 100), 2);
        due("a fourth, though none is due", x.glass(0, 6, 100), -15);
        due("another user's", x.read(1, 1), 0);
        due("another user's glass", x.glass(1, 0, 100), 3);
        due("see one", x.read(0, 1), 1);
        due("see another", x.write(0, 4), 1);
        due("saw both", x.told(0, 2), 18);
    }

    private static void glassOrder() {
        promise = 8;
        WallDesk x = fiveFirms();
        x.read(0, 0);
        x.glass(0, 1, 5);
        x.roles(1, 128);
        x.takeOff(0, 1);
        due("still runs though its duty is off", x.glass(0, 1, 1), -14);
        due("and still lets read", x.read(0, 1), 1);
        x.glass(0, 4, 1);
        due("a glass is for its own firm", x.read(0, 4), 1);
        x.tick(1);
        due("firm 4's glass is over", x.read(0, 4), -11);
        due("firm 1's still runs", x.read(0, 1), 1);
        due("a new one for firm 4 after the old ran out", x.glass(0, 4, 1), 2);
        due("entries", x.count(6), 8);
        due("a glass's entry: sort", x.entry(1, 0), 3);
        due("a glass's entry: user", x.entry(1, 1), 0);
        due("a glass's entry: glass", x.entry(1, 2), 0);
        due("a glass's entry: firm", x.entry(1, 3), 1);
    }

    private static void takeOff() {
        promise = 9;
        WallDesk x = fiveFirms();
        x.read(0, 0);
        x.glass(0, 1, 7);
        due("no such glass", x.takeOff(1, 1), -2);
        due("no such user", x.takeOff(0, 12), -2);
        for (int v : EXTREMES) {
            due("takeOff(" + v + ", 1)", x.takeOff(v, 1), -2);
            due("takeOff(0, " + v + ")", x.takeOff(0, v), -2);
        }
        x.roles(1, 127);
        due("no supervisor", x.takeOff(0, 1), -18);
        due("his own, and no supervisor: ROLE first", x.takeOff(0, 0), -18);
        x.roles(0, 128);
        due("his own", x.takeOff(0, 0), -19);
        due("still open", x.glassTold(0, 4), 1);
        x.roles(1, 255);
        x.tick(3);
        due("minutes until due", x.takeOff(0, 1), 104);
        due("it is not open", x.takeOff(0, 1), -2);
        due("it is not open: BAD before ROLE", x.takeOff(0, 2), -2);
        due("it is not open: BAD before APART", x.takeOff(0, 0), -2);
        due("duties", x.told(0, 3), 0);
        due("it still runs", x.glassTold(0, 3), 1);
        x.tick(10);
        x.glass(0, 1, 1);
        x.tick(100);
        due("a minute before it is due", x.takeOff(1, 1), 1);
        x.glass(0, 1, 1);
        x.tick(101);
        due("in its due minute", x.takeOff(2, 1), 0);
        x.glass(0, 1, 1);
        x.tick(500);
        due("long behind", x.takeOff(3, 1), 0);
        int last = x.count(6) - 1;
        due("entry: sort", x.entry(last, 0), 4);
        due("entry: user", x.entry(last, 1), 1);
        due("entry: glass", x.entry(last, 2), 3);
        due("entry: how", x.entry(last, 3), 0);
        due("entry: NOW", x.entry(last, 4), x.count(0));
    }

    private static void kind() {
        promise = 10;
        WallDesk x = new WallDesk();
        for (int i = 0; i < 4; i++) {
            due("kind()", x.kind(), i);
        }
        due("a fifth kind", x.kind(), -3);
        due("kinds", x.count(4), 4);
        due("it has no task", x.open(3), -2);
    }

    private static void task() {
        promise = 11;
        WallDesk x = new WallDesk();
        x.kind();
        due("no such kind", x.task(1, 0, 0), -2);
        due("role 8", x.task(0, 8, 0), -2);
        due("before itself", x.task(0, 0, 1), -2);
        for (int v : EXTREMES) {
            due("task(" + v + ", 0, 0)", x.task(v, 0, 0), -2);
            due("task(0, " + v + ", 0)", x.task(0, v, 0), -2);
            due("task(0, 0, " + v + ")", x.task(0, 0, v), -2);
        }
        due("task 0", x.task(0, 7, 0), 0);
        due("bits of none", x.task(0, 0, 2), -2);
        due("bits of one and of none", x.task(0, 0, 3), -2);
        due("task 1", x.task(0, 0, 1), 1);
        for (int i = 2; i < 6; i++) {
            due("task " + i, x.task(0, 0, (1 << i) - 1), i);
        }
        due("a seventh", x.task(0, 0, 63), -3);
        due("a seventh, BAD first", x.task(0, 0, 64), -2);
        due("a seventh, role BAD", x.task(0, 8, 0), -2);
        x.kind();
        due("another kind has its own", x.task(1, 0, 0), 0);
        x.open(1);
        due("while there are cases", x.task(1, 0, 0), -2);
        x.open(0);
        due("six tasks and cases: BAD first", x.task(0, 0, 0), -2);
        x.kind();
        due("cases of others", x.task(2, 0, 0), 0);
    }

    private static WallDesk kindOf(int tasks) {
        WallDesk x = new WallDesk();
        x.kind();
        for (int i = 0; i < tasks; i++) {
            x.task(0, 0, 0);
        }
        return x;
    }

    private static void apart() {
        promise = 12;
        WallDesk x = kindOf(3);
        due("no such kind", x.apart(1, 0, 1), -2);
        due("no such a", x.apart(0, 3, 1), -2);
        due("no such b", x.apart(0, 1, 3), -2);
        due("the same", x.apart(0, 2, 2), -2);
        for (int v : EXTREMES) {
            due("apart(" + v + ", 0, 1)", x.apart(v, 0, 1), -2);
            due("apart(0, " + v + ", 1)", x.apart(0, v, 1), -2);
            due("apart(0, 0, " + v + ")", x.apart(0, 0, v), -2);
        }
        due("new", x.apart(0, 2, 0), 1);
        due("again", x.apart(0, 2, 0), 0);
        due("again, the other way", x.apart(0, 0, 2), 0);
        due("another pair", x.apart(0, 0, 1), 1);
        due("a third pair", x.apart(0, 1, 2), 1);
        due("the first pair still", x.apart(0, 2, 0), 0);
        due("the second pair still", x.apart(0, 1, 0), 0);
        due("bound is another thing", x.bound(0, 0, 2), 1);
        x.open(0);
        due("while there are cases", x.apart(0, 0, 1), -2);
    }

    private static void bound() {
        promise = 13;
        WallDesk x = kindOf(3);
        due("no such kind", x.bound(1, 0, 1), -2);
        due("no such a", x.bound(0, 3, 1), -2);
        due("no such b", x.bound(0, 1, 3), -2);
        due("the same", x.bound(0, 2, 2), -2);
        for (int v : EXTREMES) {
            due("bound(" + v + ", 0, 1)", x.bound(v, 0, 1), -2);
            due("bound(0, " + v + ", 1)", x.bound(0, v, 1), -2);
            due("bound(0, 0, " + v + ")", x.bound(0, 0, v), -2);
        }
        due("new", x.bound(0, 2, 0), 1);
        due("again", x.bound(0, 2, 0), 0);
        due("again, the other way", x.bound(0, 0, 2), 0);
        due("another pair", x.bound(0, 0, 1), 1);
        due("a pair that follows from others is new", x.bound(0, 1, 2), 1);
        due("the first pair still", x.bound(0, 2, 0), 0);
        due("the second pair still", x.bound(0, 1, 0), 0);
        due("apart is another thing", x.apart(0, 0, 2), 1);
        x.open(0);
        due("while there are cases", x.bound(0, 0, 1), -2);
    }

    private static void most() {
        promise = 14;
        WallDesk x = kindOf(1);
        due("no such kind", x.most(1, 1), -2);
        due("0", x.most(0, 0), -2);
        due("7", x.most(0, 7), -2);
        for (int v : EXTREMES) {
            due("most(" + v + ", 1)", x.most(v, 1), -2);
            due("most(0, " + v + ")", x.most(0, v), -2);
        }
        due("6 at first", x.most(0, 1), 6);
        due("1 then", x.most(0, 6), 1);
        due("6 then", x.most(0, 5), 6);
        x.open(0);
        due("while there are cases", x.most(0, 2), -2);
    }

    private static void open() {
        promise = 15;
        WallDesk x = kindOf(1);
        x.kind();
        due("no such kind", x.open(2), -2);
        due("without tasks", x.open(1), -2);
        for (int v : EXTREMES) {
            due("open(" + v + ")", x.open(v), -2);
        }
        x.task(1, 0, 0);
        for (int i = 0; i < 16; i++) {
            due("case " + i, x.open(i % 2), i);
        }
        due("a seventeenth", x.open(0), -3);
        due("a seventeenth, BAD first", x.open(2), -2);
        due("cases", x.count(5), 16);
    }

    private static void performRefusals() {
        promise = 16;
        WallDesk x = new WallDesk();
        for (int user = 0; user < 12; user++) {
            x.roles(user, 1);
        }
        x.roles(5, 2);
        x.kind();
        x.task(0, 0, 0);
        x.task(0, 0, 1);
        x.task(0, 1, 0);
        x.task(0, 0, 0);
        x.apart(0, 0, 1);
        x.bound(0, 0, 3);
        x.open(0);
        x.kind();
        x.task(1, 0, 0);
        due("no such task", x.perform(4, 0, 0), -2);
        due("no such case", x.perform(0, 1, 0), -2);
        due("no such user", x.perform(0, 0, 12), -2);
        for (int v : EXTREMES) {
            due("perform(" + v + ", 0, 0)", x.perform(v, 0, 0), -2);
            due("perform(0, " + v + ", 0)", x.perform(0, v, 0), -2);
            due("perform(0, 0, " + v + ")", x.perform(0, 0, v), -2);
        }
        due("early", x.perform(1, 0, 0), -17);
        due("role", x.perform(2, 0, 0), -18);
        due("done by 0", x.perform(0, 0, 0), 3);
        due("again by 0", x.perform(0, 0, 0), -16);
        due("again by another", x.perform(0, 0, 1), -16);
        due("apart", x.perform(1, 0, 0), -19);
        due("not apart", x.perform(1, 0, 1), 2);
        due("bound", x.perform(3, 0, 1), -20);
        due("bound to 0", x.perform(3, 0, 0), 1);
        due("the role", x.perform(2, 0, 5), 0);
        due("sort", x.entry(3, 0), 5);
        due("user", x.entry(3, 1), 5);
        due("what", x.entry(3, 2), 2);
        due("how", x.entry(3, 3), 0);
        x.open(1);
        x.tick(9);
        due("a case of another kind has its own tasks", x.perform(1, 1, 0), -2);
        due("alone", x.perform(0, 1, 11), 0);
        due("what: 8 times the case and the task", x.entry(4, 2), 8);
        due("NOW", x.entry(4, 4), 9);
    }

    private static void performOrder() {
        promise = 16;
        WallDesk x = new WallDesk();
        x.roles(0, 1);
        x.roles(1, 1);
        x.kind();
        x.task(0, 0, 0);
        x.task(0, 0, 1);
        x.task(0, 0, 0);
        x.task(0, 0, 2);
        x.task(0, 0, 0);
        x.apart(0, 0, 2);
        x.bound(0, 1, 2);
        x.apart(0, 0, 4);
        x.most(0, 4);
        x.open(0);
        due("early and no role: EARLY", x.perform(1, 0, 3), -17);
        due("task 0 by 0", x.perform(0, 0, 0), 4);
        due("done, and apart, and no role: DONE", x.perform(0, 0, 3), -16);
        due("no role, early and apart: EARLY", x.perform(3, 0, 3), -17);
        due("no role and bound to be: ROLE", x.perform(2, 0, 3), -18);
        due("task 1 by 1", x.perform(1, 0, 1), 3);
        due("apart and bound: APART", x.perform(2, 0, 0), -19);

        x = new WallDesk();
        for (int user = 0; user < 12; user++) {
            x.roles(user, 1);
        }
        x.kind();
        x.task(0, 0, 0);
        x.task(0, 0, 0);
        x.task(0, 0, 0);
        x.task(0, 0, 0);
        x.bound(0, 0, 1);
        x.bound(0, 2, 3);
        x.apart(0, 0, 3);
        x.most(0, 2);
        x.open(0);
        x.perform(0, 0, 0);
        x.perform(1, 0, 0);
        due("apart and most: APART", x.perform(3, 0, 0), -19);
        due("most", x.perform(2, 0, 0), -21);
        due("task 2 by 2", x.perform(2, 0, 2), 1);
        due("bound", x.perform(3, 0, 1), -20);
        due("apart, bound and most: APART", x.perform(3, 0, 0), -19);

        x = kindOf(3);
        x.roles(0, 1);
        x.roles(1, 1);
        x.most(0, 1);
        x.bound(0, 1, 2);
        x.open(0);
        due("it cannot end at all", x.canEnd(0), 0);
        due("task 0 by 0", x.perform(0, 0, 0), 2);
        due("task 1 by 1", x.perform(1, 0, 1), 1);
        due("bound and most: BOUND", x.perform(2, 0, 0), -20);
        due("most of the one who is bound", x.perform(2, 0, 1), -21);
        due("a roleless one: ROLE", x.perform(2, 0, 2), -18);
    }

    private static void performStuck() {
        promise = 16;
        WallDesk x = new WallDesk();
        x.roles(0, 3);
        x.roles(1, 1);
        x.kind();
        x.task(0, 0, 0);
        x.task(0, 1, 0);
        x.apart(0, 0, 1);
        x.open(0);
        due("nobody else for task 1", x.perform(0, 0, 0), -22);
        due("nothing was done", x.doer(0, 0), -1);
        due("nothing was written", x.count(6), 0);
        due("it can end still", x.canEnd(0), 1);
        x.roles(2, 2);
        due("there is another now", x.perform(0, 0, 0), 1);
        x.roles(2, 0);
        due("it cannot end now", x.canEnd(0), 0);
        due("apart all the same", x.perform(1, 0, 0), -19);

        x = kindOf(4);
        x.roles(0, 1);
        x.roles(1, 1);
        x.most(0, 2);
        x.bound(0, 2, 3);
        x.open(0);
        due("one for each pair", x.perform(0, 0, 0), 3);
        due("two loose ones apart leave none two for the bound pair", x.perform(1, 0, 1), -22);
        due("the bound pair's half is stuck likewise", x.perform(2, 0, 0), -22);
        due("the other of the loose pair", x.perform(1, 0, 0), 2);
        due("half", x.perform(2, 0, 1), 1);
        due("whole", x.perform(3, 0, 1), 0);

        x = new WallDesk();
        x.roles(0, 1);
        x.kind();
        x.task(0, 0, 0);
        x.task(0, 1, 0);
        x.open(0);
        due("nobody has role 1", x.canEnd(0), 0);
        due("what cannot end now is not stuck by this", x.perform(0, 0, 0), 1);
        due("role", x.perform(1, 0, 0), -18);
    }

    private static void performLimits() {
        promise = 16;
        WallDesk x = kindOf(6);
        x.roles(11, 1);
        x.open(0);
        for (int task = 5; task >= 0; task--) {
            due("task " + task, x.perform(task, 0, 11), task);
        }
        for (int task = 0; task < 6; task++) {
            due("done", x.perform(task, 0, 11), -16);
            due("doer", x.doer(task, 0), 11);
        }
        x = kindOf(6);
        for (int user = 0; user < 12; user++) {
            x.roles(user, 255);
        }
        for (int a = 0; a < 6; a++) {
            for (int b = 0; b < a; b++) {
                x.apart(0, a, b);
            }
        }
        for (int i = 0; i < 16; i++) {
            x.open(0);
        }
        due("all apart", x.canEnd(15), 1);
        for (int task = 0; task < 6; task++) {
            due("task " + task, x.perform(task, 15, 11 - task), 5 - task);
            due("what", x.entry(task, 2), 120 + task);
        }
        due("another case is as it was", x.doer(0, 14), -1);
    }

    private static void canEnd() {
        promise = 17;
        WallDesk x = kindOf(2);
        x.open(0);
        due("no such case", x.canEnd(1), -2);
        for (int v : EXTREMES) {
            due("canEnd(" + v + ")", x.canEnd(v), -2);
        }
        due("nobody has the role", x.canEnd(0), 0);
        x.roles(11, 254);
        due("all roles but that", x.canEnd(0), 0);
        x.roles(11, 1);
        due("one has it", x.canEnd(0), 1);
        x.perform(0, 0, 11);
        x.roles(11, 0);
        due("nobody has it any more", x.canEnd(0), 0);
        x.roles(0, 1);
        due("another has it", x.canEnd(0), 1);
        x.perform(1, 0, 0);
        x.roles(0, 0);
        due("all is done", x.canEnd(0), 1);
    }

    private static void canEndAllTogether() {
        promise = 17;
        WallDesk x = kindOf(2);
        x.apart(0, 0, 1);
        x.bound(0, 0, 1);
        x.roles(0, 1);
        x.roles(1, 1);
        x.open(0);
        due("apart and bound", x.canEnd(0), 0);

        x = kindOf(3);
        x.bound(0, 0, 1);
        x.bound(0, 1, 2);
        x.most(0, 2);
        x.roles(0, 1);
        x.roles(1, 1);
        x.open(0);
        due("three bound, two at most", x.canEnd(0), 0);

        x = new WallDesk();
        x.kind();
        x.task(0, 0, 0);
        x.task(0, 1, 0);
        x.bound(0, 0, 1);
        x.roles(0, 1);
        x.roles(1, 2);
        x.open(0);
        due("bound, and no one has both roles", x.canEnd(0), 0);
        due("so it is not stuck", x.perform(0, 0, 0), 1);
        x.roles(1, 3);
        due("done by another than the one with the role", x.canEnd(0), 0);
        x.roles(0, 2);
        due("whatever role he has now for what is done", x.canEnd(0), 1);

        for (int task = 0; task < 6; task++) {
            x = new WallDesk();
            x.kind();
            for (int i = 0; i < 6; i++) {
                x.task(0, i, 0);
            }
            for (int user = 0; user < 12; user++) {
                x.roles(user, 255 & ~(1 << task));
            }
            x.open(0);
            due("all but task " + task + " by many", x.canEnd(0), 0);
            x.roles(6, 1 << task);
            due("task " + task + " by one", x.canEnd(0), 1);
        }

        x = kindOf(6);
        x.most(0, 2);
        x.roles(3, 1);
        x.roles(7, 1);
        x.open(0);
        due("two users, two each, six tasks", x.canEnd(0), 0);
        x.roles(9, 1);
        due("three users", x.canEnd(0), 1);
        x.perform(0, 0, 3);
        x.perform(1, 0, 7);
        x.roles(3, 0);
        due("one of them lost his role", x.canEnd(0), 0);
    }

    private static void doer() {
        promise = 18;
        WallDesk x = kindOf(2);
        x.roles(4, 1);
        x.open(0);
        due("no such task", x.doer(2, 0), -2);
        due("no such case", x.doer(0, 1), -2);
        for (int v : EXTREMES) {
            due("doer(" + v + ", 0)", x.doer(v, 0), -2);
            due("doer(0, " + v + ")", x.doer(0, v), -2);
        }
        due("not done", x.doer(1, 0), -1);
        x.perform(1, 0, 4);
        due("done", x.doer(1, 0), 4);
        due("the other is not", x.doer(0, 0), -1);
    }

    private static void told() {
        promise = 19;
        WallDesk x = fiveFirms();
        for (int i = 5; i < 24; i++) {
            x.firm(0);
        }
        x.object(23);
        due("no such user", x.told(12, 0), -2);
        due("no such what", x.told(0, 4), -2);
        for (int v : EXTREMES) {
            due("told(" + v + ", 0)", x.told(v, 0), -2);
            due("told(0, " + v + ")", x.told(0, v), -2);
        }
        x.roles(11, 200);
        x.read(11, 5);
        x.read(11, 2);
        x.glass(11, 0, 5);
        x.glass(11, 1, 5);
        x.read(11, 1);
        due("roles", x.told(11, 0), 200);
        due("knows", x.told(11, 1), 1 << 23 | 4);
        due("saw", x.told(11, 2), 2);
        due("duties", x.told(11, 3), 2);
        x.roles(0, 128);
        x.takeOff(0, 0);
        due("a duty less", x.told(11, 3), 1);
        x.tick(1000);
        due("a duty stays", x.told(11, 3), 1);
        due("another's duties", x.told(0, 3), 0);
    }

    private static void glassTold() {
        promise = 20;
        WallDesk x = fiveFirms();
        x.tick(10);
        x.read(7, 0);
        x.glass(7, 4, 20);
        due("no such glass", x.glassTold(1, 0), -2);
        due("no such what", x.glassTold(0, 5), -2);
        for (int v : EXTREMES) {
            due("glassTold(" + v + ", 0)", x.glassTold(v, 0), -2);
            due("glassTold(0, " + v + ")", x.glassTold(0, v), -2);
        }
        due("user", x.glassTold(0, 0), 7);
        due("firm", x.glassTold(0, 1), 4);
        due("end", x.glassTold(0, 2), 30);
        due("runs", x.glassTold(0, 3), 1);
        due("duty", x.glassTold(0, 4), 1);
        x.tick(19);
        due("runs in its last minute", x.glassTold(0, 3), 1);
        x.tick(1);
        due("runs no more", x.glassTold(0, 3), 0);
        due("duty stays", x.glassTold(0, 4), 1);
        x.roles(2, 128);
        x.takeOff(0, 2);
        due("duty is off", x.glassTold(0, 4), 0);
    }

    private static void entry() {
        promise = 21;
        WallDesk x = fiveFirms();
        x.tick(17);
        x.read(6, 3);
        x.write(5, 2);
        due("no such entry", x.entry(2, 0), -2);
        due("no such what", x.entry(0, 5), -2);
        for (int v : EXTREMES) {
            due("entry(" + v + ", 0)", x.entry(v, 0), -2);
            due("entry(0, " + v + ")", x.entry(0, v), -2);
        }
        int[] first = {1, 6, 3, 0, 17};
        int[] second = {2, 5, 2, 0, 17};
        for (int what = 0; what < 5; what++) {
            due("entry(0, " + what + ")", x.entry(0, what), first[what]);
            due("entry(1, " + what + ")", x.entry(1, what), second[what]);
        }
        x.read(5, 1);
        x.glass(5, 0, 1);
        x.read(5, 0);
        x.write(5, 0);
        due("how of a reading by the walls", x.entry(2, 3), 0);
        due("how of a reading by a glass", x.entry(4, 3), 1);
        due("how of a writing by a glass", x.entry(5, 3), 1);
        due("what of a writing by a glass", x.entry(5, 2), 0);
    }

    /** The document's link, told once more and by itself. */
    private static long linkOf(long before, long sort, long user, long what, long how, long now) {
        long x = before * -7046029254386353131L + sort;
        x = (x ^ (x >>> 29)) * -4658895280553007687L + user;
        x = (x ^ (x >>> 29)) * -4658895280553007687L + what;
        x = (x ^ (x >>> 29)) * -4658895280553007687L + how;
        x = (x ^ (x >>> 32)) * -7723592293110705685L + now;
        return x ^ (x >>> 31);
    }

    private static void link() {
        promise = 22;
        WallDesk x = fiveFirms();
        due("none such", x.link(0), 0);
        x.tick(17);
        x.read(6, 3);
        x.tick(1);
        x.write(5, 2);
        long first = linkOf(1, 1, 6, 3, 0, 17);
        long second = linkOf(first, 2, 5, 2, 0, 18);
        due("the first", x.link(0), first);
        due("the second", x.link(1), second);
        due("a third", x.link(2), 0);
        for (int v : EXTREMES) {
            due("link(" + v + ")", x.link(v), 0);
        }
        x.alter(1, 1, 9);
        due("an altered entry keeps its link", x.link(1), second);
        x.read(6, 3);
        due("the next one hangs on the link that stands", x.link(2), linkOf(second, 1, 6, 3, 0, 18));
    }

    private static void alter() {
        promise = 23;
        WallDesk x = fiveFirms();
        x.read(6, 3);
        due("no such entry", x.alter(1, 0, 1), -2);
        due("no such what", x.alter(0, 5, 1), -2);
        for (int v : EXTREMES) {
            due("alter(" + v + ", 0, 1)", x.alter(v, 0, 1), -2);
            due("alter(0, " + v + ", 1)", x.alter(0, v, 1), -2);
        }
        int[] were = {1, 6, 3, 0, 0};
        for (int what = 0; what < 5; what++) {
            int was = were[what];
            for (int v : EXTREMES) {
                due("alter(0, " + what + ", " + v + ")", x.alter(0, what, v), was);
                due("entry after it", x.entry(0, what), v);
                was = v;
            }
            due("back", x.alter(0, what, were[what]), was);
            due("good again", x.check(), -1);
        }
        x.alter(0, 0, 2);
        due("what he knows is not altered", x.told(6, 1), 0);
        due("entries", x.count(6), 1);
    }

    private static void check() {
        promise = 24;
        WallDesk x = fiveFirms();
        due("none", x.check(), -1);
        for (int i = 0; i < 10; i++) {
            x.read(i, i % 5);
        }
        due("all are good", x.check(), -1);
        for (int i = 0; i < 10; i++) {
            for (int what = 0; what < 5; what++) {
                int was = x.alter(i, what, -77);
                due("altered " + i + ", " + what, x.check(), i);
                x.alter(i, what, was);
            }
        }
        due("all are good again", x.check(), -1);
        x.alter(7, 1, 11);
        x.alter(3, 1, 11);
        due("the first of two", x.check(), 3);
        x.alter(3, 1, 3);
        due("the other", x.check(), 7);
        x.read(0, 3);
        due("a new one behind it", x.check(), 7);
        x.alter(7, 1, 7);
        due("all good, the new one too", x.check(), -1);
    }

    private static void count() {
        promise = 25;
        WallDesk x = fiveFirms();
        x.object(0);
        x.tick(9);
        x.read(0, 0);
        x.glass(0, 1, 1);
        x.kind();
        x.kind();
        x.kind();
        x.task(0, 0, 0);
        x.open(0);
        x.open(0);
        x.open(0);
        x.open(0);
        int[] want = {9, 5, 6, 1, 3, 4, 2};
        for (int what = 0; what <= 6; what++) {
            due("count(" + what + ")", x.count(what), want[what]);
        }
        due("count(7)", x.count(7), -2);
        for (int v : EXTREMES) {
            due("count(" + v + ")", x.count(v), -2);
        }
    }

    private static void fullRecord() {
        WallDesk x = fiveFirms();
        x.roles(1, 128);
        x.roles(0, 1);
        x.kind();
        x.task(0, 0, 0);
        x.task(0, 1, 0);
        x.open(0);
        x.read(0, 0);
        x.glass(0, 1, 50);
        for (int i = 2; i < 240; i++) {
            x.read(2, 3);
        }
        promise = 25;
        due("240 entries", x.count(6), 240);
        promise = 6;
        due("read, full", x.read(3, 4), -3);
        due("full: knows no more", x.told(3, 1), 0);
        due("read by a glass, full", x.read(0, 1), -3);
        due("full: saw no more", x.told(0, 2), 0);
        due("WALL before FULL", x.read(0, 4), -11);
        due("BAD before FULL", x.read(0, 5), -2);
        promise = 7;
        due("write, full", x.write(3, 4), -3);
        due("LEAK before FULL", x.write(0, 3), -12);
        due("WALL before FULL", x.write(0, 4), -11);
        due("full: knows no more", x.told(3, 1), 0);
        promise = 8;
        due("glass, full", x.glass(0, 4, 1), -3);
        due("RUNS before FULL", x.glass(0, 1, 1), -14);
        due("NEEDLESS before FULL", x.glass(0, 0, 1), -13);
        due("glasses", x.count(3), 1);
        promise = 9;
        due("take off, full", x.takeOff(0, 1), -3);
        due("the duty stays open", x.glassTold(0, 4), 1);
        due("ROLE before FULL", x.takeOff(0, 2), -18);
        x.roles(0, 129);
        due("APART before FULL", x.takeOff(0, 0), -19);
        promise = 16;
        due("perform, full", x.perform(0, 0, 0), -3);
        due("full: not done", x.doer(0, 0), -1);
        due("ROLE before FULL", x.perform(0, 0, 2), -18);
        promise = 8;
        x.tick(1000);
        due("OWES before FULL", x.glass(0, 4, 1), -15);
        promise = 22;
        due("the last link is there", x.link(239) == 0 ? 0 : 1, 1);
        due("none behind it", x.link(240), 0);
        promise = 21;
        due("none behind it", x.entry(240, 0), -2);
        promise = 24;
        due("all are good", x.check(), -1);
        x.alter(239, 4, 5);
        due("the last one is altered", x.check(), 239);
    }
}

/** How many there are of each thing, and how it is numbered: the edges of Terms and of promises 1 to 5, 10, 15, 25. */
public final class NumberEdges extends Edges {
    public static void main(String[] args) {
        sentence("No FIRMS, OBJECTS, KINDS; nobody has a ROLE.", NumberEdges::newObject);
        sentence("NOW is a minute, 0 at first.", NumberEdges::nowAtFirst);
        sentence("Minutes go by, 1 .. 1000: NOW. BAD", NumberEdges::tickMinutes);
        sentence("FULL: it would be above 100000.", NumberEdges::tickFull);
        sentence("USERS 0 .. 11", NumberEdges::users);
        sentence("each with ROLES (8 bits, at first none)", NumberEdges::roleBits);
        sentence("ROLES of a user, 0 .. 255: what they were. BAD.", NumberEdges::rolesWere);
        sentence("FIRMS, 24 at most, numbered from 0 on", NumberEdges::firmNumbers);
        sentence("each in a CLASS 0 .. 7, or OPEN", NumberEdges::firmClasses);
        sentence("A FIRM of a CLASS, or OPEN (NONE): its number. BAD; FULL.", NumberEdges::firmBadBeforeFull);
        sentence("OBJECTS, 48 at most, numbered from 0 on", NumberEdges::objectNumbers);
        sentence("each of a FIRM", NumberEdges::objectsOfFirms);
        sentence("An OBJECT of a FIRM: its number. BAD; FULL.", NumberEdges::objectBadBeforeFull);
        sentence("KINDS, 4 at most", NumberEdges::kindNumbers);
        sentence("A KIND: its number. FULL.", NumberEdges::kindFull);
        sentence("A CASE (16 at most)", NumberEdges::caseNumbers);
        sentence("What = 0 NOW, 1 FIRMS, 2 OBJECTS, 3 GLASSES, 4 KINDS, 5 CASES, 6 ENTRIES. BAD.", NumberEdges::counts);
        end();
    }

    private static void newObject() {
        Trial x = new Trial();
        for (int what = 0; what <= 6; what++) {
            x.gives("count(" + what + ")", 0);
        }
        for (int user = 0; user <= 11; user++) {
            for (int what = 0; what <= 3; what++) {
                x.gives("told(" + user + ", " + what + ")", 0);
            }
        }
        x.gives("check()", NONE).gives("link(0)", 0);
        x.refuses("object(0)", BAD).refuses("read(0, 0)", BAD).refuses("write(0, 0)", BAD);
        x.refuses("glass(0, 0, 1)", BAD).refuses("takeOff(0, 0)", BAD).refuses("open(0)", BAD);
        x.refuses("task(0, 0, 0)", BAD).refuses("apart(0, 0, 1)", BAD).refuses("bound(0, 0, 1)", BAD);
        x.refuses("most(0, 6)", BAD).refuses("perform(0, 0, 0)", BAD).refuses("canEnd(0)", BAD);
        x.refuses("doer(0, 0)", BAD).refuses("glassTold(0, 0)", BAD).refuses("entry(0, 0)", BAD);
        x.refuses("alter(0, 0, 0)", BAD);
        x.does("firm(0)", "object(0)", "kind()", "task(0, 0, 0)", "open(0)", "roles(0, 1)", "tick(1)");
        Trial other = new Trial();
        for (int what = 0; what <= 6; what++) {
            other.gives("count(" + what + ")", 0);
        }
        other.gives("told(0, 0)", 0);
    }

    private static void nowAtFirst() {
        new Trial().gives("count(0)", 0);
        new Trial().gives("tick(1)", 1);
        new Trial().does("firm(0)", "object(0)", "read(0, 0)").gives("entry(0, 4)", 0);
        broken(1).gives("glassTold(0, 2)", 1);
    }

    private static void tickMinutes() {
        for (int start : new int[] {0, 500}) {
            Trial x = new Trial();
            if (start > 0) {
                x.gives("tick(" + start + ")", start);
            }
            x.refuses("tick(-1)", BAD).refuses("tick(0)", BAD);
            x.refuses("tick(1001)", BAD).refuses("tick(1002)", BAD);
            for (int far : FAR) {
                x.refuses("tick(" + far + ")", BAD);
            }
            x.gives("tick(1)", start + 1).gives("tick(2)", start + 3);
            x.gives("tick(999)", start + 1002).gives("tick(1000)", start + 2002);
            x.gives("count(0)", start + 2002);
        }
    }

    private static void tickFull() {
        Trial x = new Trial().times(99, "tick(1000)").does("tick(1)");
        x.refuses("tick(1000)", FULL).gives("count(0)", 99001);
        x.gives("tick(998)", 99999);
        x.refuses("tick(2)", FULL).refuses("tick(1000)", FULL);
        x.gives("tick(1)", 100000).gives("count(0)", 100000);
        x.refuses("tick(1)", FULL).refuses("tick(2)", FULL).refuses("tick(1000)", FULL);

        new Trial().times(99, "tick(1000)").gives("tick(1000)", 100000);
        new Trial().times(99, "tick(1000)").does("tick(1)").gives("tick(999)", 100000);
    }

    /** All that a user may be named in, set up so that each of the calls would be granted to a user that there is. */
    private static Trial forUsers() {
        return broken(50).does("roles(11, 128)", "kind()", "task(0, 0, 0)", "open(0)");
    }

    private static void users() {
        for (int user : new int[] {0, 1, 10, 11}) {
            Trial x = forUsers();
            x.gives("roles(" + user + ", 129)", user == 11 ? 128 : 0).gives("told(" + user + ", 0)", 129);
            x.gives("read(" + user + ", 1)", 0).gives("write(" + user + ", 1)", 0);
            x.gives("glass(" + user + ", 1, 1)", 1).gives("takeOff(0, " + user + ")", 150);
            x.gives("perform(0, 0, " + user + ")", 0).gives("doer(0, 0)", user);
            x.gives("told(" + user + ", 1)", 1).gives("told(" + user + ", 3)", 1);
            for (int entry = 1; entry <= 6; entry++) {
                x.gives("entry(" + entry + ", 1)", entry == 1 ? 3 : user);
            }
        }
        for (int user : new int[] {Integer.MIN_VALUE, -12, -2, -1, 12, 13, 16, 32, 64, Integer.MAX_VALUE}) {
            Trial x = forUsers();
            x.refuses("roles(" + user + ", 129)", BAD);
            x.refuses("read(" + user + ", 1)", BAD).refuses("write(" + user + ", 1)", BAD);
            x.refuses("glass(" + user + ", 1, 1)", BAD).refuses("takeOff(0, " + user + ")", BAD);
            x.refuses("perform(0, 0, " + user + ")", BAD);
            for (int what = 0; what <= 3; what++) {
                x.refuses("told(" + user + ", " + what + ")", BAD);
            }
        }
    }

    private static void roleBits() {
        Trial x = new Trial();
        for (int user = 0; user <= 11; user++) {
            x.gives("told(" + user + ", 0)", 0).gives("roles(" + user + ", 255)", 0);
            x.gives("told(" + user + ", 0)", 255);
        }
        for (int bits : new int[] {256, 257, 511, 512, -1, -128, -256, Integer.MIN_VALUE, Integer.MAX_VALUE}) {
            x.refuses("roles(0, " + bits + ")", BAD).refuses("roles(11, " + bits + ")", BAD);
        }
        for (int bit = 0; bit < 8; bit++) {
            Trial one = eachRole().does("roles(5, " + (1 << bit) + ")").gives("told(5, 0)", 1 << bit);
            for (int role = 0; role < 8; role++) {
                String call = "perform(" + role % 4 + ", " + role / 4 + ", 5)";
                if (role == bit) {
                    one.gives(call, 3);
                } else {
                    one.refuses(call, ROLE);
                }
            }
        }
    }

    /** Case 0 whose tasks need the roles 0 to 3, and case 1 whose tasks need 4 to 7. */
    private static Trial eachRole() {
        Trial x = new Trial().does("kind()", "kind()");
        for (int role = 0; role < 8; role++) {
            x.does("task(" + role / 4 + ", " + role + ", 0)");
        }
        return x.does("open(0)", "open(1)");
    }

    private static void rolesWere() {
        Trial x = new Trial();
        x.gives("roles(4, 0)", 0).gives("roles(4, 1)", 0).gives("roles(4, 254)", 1).gives("roles(4, 255)", 254);
        x.refuses("roles(4, -1)", BAD).refuses("roles(4, 256)", BAD);
        x.gives("roles(4, 0)", 255).gives("roles(4, 0)", 0).gives("told(4, 0)", 0);
        x.gives("told(3, 0)", 0).gives("told(5, 0)", 0).gives("count(6)", 0);
    }

    private static void firmNumbers() {
        Trial x = new Trial();
        x.refuses("object(-1)", BAD).refuses("object(0)", BAD);
        for (int i = 0; i < 23; i++) {
            x.gives("firm(" + i % 8 + ")", i);
        }
        x.gives("count(1)", 23);
        x.refuses("object(23)", BAD).refuses("glass(0, 23, 1)", BAD);
        x.gives("object(22)", 0);
        x.gives("firm(0)", 23).gives("count(1)", 24);
        x.gives("object(23)", 1);
        x.refuses("object(24)", BAD).refuses("object(-1)", BAD).refuses("glass(0, 24, 1)", BAD);
        x.refuses("glass(0, -1, 1)", BAD);
        x.refuses("firm(0)", FULL).refuses("firm(7)", FULL).refuses("firm(-1)", FULL);
        x.gives("count(1)", 24);
        x.gives("read(0, 1)", 0).gives("told(0, 1)", 1 << 23).gives("glass(0, 0, 1)", 0);
        for (int far : FAR) {
            x.refuses("object(" + far + ")", BAD).refuses("glass(0, " + far + ", 1)", BAD);
        }
    }

    private static void firmClasses() {
        Trial x = new Trial();
        x.refuses("firm(8)", BAD).refuses("firm(9)", BAD).refuses("firm(-2)", BAD).refuses("firm(-3)", BAD);
        for (int far : FAR) {
            x.refuses("firm(" + far + ")", BAD);
        }
        for (int where = -1; where <= 7; where++) {
            x.gives("firm(" + where + ")", where + 1);
        }
        for (int firm = 0; firm <= 8; firm++) {
            x.gives("object(" + firm + ")", firm);
        }
        for (int firm = 0; firm <= 8; firm++) {
            x.gives("read(0, " + firm + ")", 0);
        }
        x.gives("told(0, 1)", 0x1FE);
        for (int where = 0; where <= 7; where++) {
            x.does("firm(" + where + ")", "object(" + (9 + where) + ")").refuses("read(0, " + (9 + where) + ")", WALL);
        }
        x.does("firm(-1)", "object(17)").gives("read(0, 17)", 0);
    }

    private static void firmBadBeforeFull() {
        Trial x = new Trial().times(23, "firm(7)");
        x.refuses("firm(8)", BAD).refuses("firm(-2)", BAD);
        x.gives("firm(-1)", 23);
        x.refuses("firm(8)", BAD).refuses("firm(-2)", BAD).refuses("firm(-1)", FULL).refuses("firm(7)", FULL);
    }

    private static void objectNumbers() {
        Trial x = new Trial().does("firm(-1)", "firm(0)");
        x.refuses("read(0, 0)", BAD).refuses("write(0, 0)", BAD);
        for (int i = 0; i < 47; i++) {
            x.gives("object(0)", i);
        }
        x.gives("count(2)", 47);
        x.refuses("read(0, 47)", BAD).refuses("write(0, 47)", BAD);
        x.gives("read(0, 46)", 0).gives("write(0, 46)", 0);
        x.gives("object(1)", 47).gives("count(2)", 48);
        x.refuses("object(0)", FULL).refuses("object(1)", FULL);
        x.refuses("read(0, 48)", BAD).refuses("write(0, 48)", BAD);
        x.refuses("read(0, -1)", BAD).refuses("write(0, -1)", BAD);
        x.gives("write(0, 47)", 0).gives("read(0, 47)", 0).gives("told(0, 1)", 2).gives("entry(2, 2)", 47);
        x.gives("read(1, 0)", 0).gives("told(1, 1)", 0).gives("count(2)", 48);
        for (int far : FAR) {
            x.refuses("read(0, " + far + ")", BAD).refuses("write(0, " + far + ")", BAD);
        }
    }

    private static void objectsOfFirms() {
        Trial x = new Trial();
        x.refuses("object(0)", BAD);
        x.does("firm(0)").refuses("object(1)", BAD).refuses("object(-1)", BAD);
        x.does("firm(0)").gives("object(1)", 0).gives("object(0)", 1).gives("object(1)", 2);
        x.refuses("object(2)", BAD);
        x.gives("read(0, 0)", 0).gives("told(0, 1)", 2).refuses("read(0, 1)", WALL).gives("read(0, 2)", 0);
        x.gives("write(1, 1)", 0).gives("told(1, 1)", 1).refuses("write(1, 0)", WALL).refuses("write(1, 2)", WALL);
    }

    private static void objectBadBeforeFull() {
        Trial x = new Trial().does("firm(0)").times(48, "object(0)");
        x.refuses("object(1)", BAD).refuses("object(-1)", BAD).refuses("object(0)", FULL);
    }

    private static void kindNumbers() {
        Trial x = new Trial();
        x.refuses("task(0, 0, 0)", BAD).refuses("most(0, 1)", BAD);
        for (int kind = 0; kind < 3; kind++) {
            x.gives("kind()", kind);
        }
        x.gives("count(4)", 3);
        x.refuses("task(3, 0, 0)", BAD).refuses("most(3, 1)", BAD).refuses("open(3)", BAD);
        x.gives("kind()", 3).gives("count(4)", 4);
        x.gives("task(3, 0, 0)", 0).gives("task(3, 0, 0)", 1).gives("apart(3, 0, 1)", 1).gives("bound(3, 0, 1)", 1);
        x.does("task(2, 0, 0)", "task(2, 0, 0)");
        for (int kind : new int[] {4, 5, -1, Integer.MIN_VALUE, Integer.MAX_VALUE}) {
            x.refuses("task(" + kind + ", 0, 0)", BAD).refuses("apart(" + kind + ", 0, 1)", BAD);
            x.refuses("bound(" + kind + ", 0, 1)", BAD).refuses("most(" + kind + ", 6)", BAD);
            x.refuses("open(" + kind + ")", BAD);
        }
        x.gives("most(3, 2)", 6).gives("open(3)", 0);
    }

    private static void kindFull() {
        Trial x = new Trial().times(3, "kind()");
        x.gives("kind()", 3);
        x.refuses("kind()", FULL).refuses("kind()", FULL).gives("count(4)", 4);
        x.does("task(3, 0, 0)", "open(3)").refuses("kind()", FULL);
    }

    private static void caseNumbers() {
        Trial x = tasks(1).does("kind()", "roles(0, 1)");
        x.refuses("canEnd(0)", BAD).refuses("doer(0, 0)", BAD).refuses("perform(0, 0, 0)", BAD);
        for (int of = 0; of < 15; of++) {
            x.gives("open(0)", of);
        }
        x.gives("count(5)", 15);
        x.refuses("canEnd(15)", BAD).refuses("doer(0, 15)", BAD).refuses("perform(0, 15, 0)", BAD);
        x.gives("open(0)", 15).gives("count(5)", 16);
        x.refuses("open(0)", FULL).refuses("open(1)", BAD).refuses("open(2)", BAD).refuses("open(-1)", BAD);
        x.gives("canEnd(15)", 1).gives("doer(0, 15)", NONE).gives("perform(0, 15, 0)", 0).gives("doer(0, 15)", 0);
        x.gives("entry(0, 2)", 120).gives("doer(0, 14)", NONE).gives("perform(0, 0, 0)", 0).gives("entry(1, 2)", 0);
        x.refuses("open(0)", FULL).gives("count(5)", 16);
        for (int of : new int[] {-1, 16, 17, Integer.MIN_VALUE, Integer.MAX_VALUE}) {
            x.refuses("canEnd(" + of + ")", BAD).refuses("doer(0, " + of + ")", BAD);
            x.refuses("perform(0, " + of + ", 0)", BAD);
        }
    }

    private static void counts() {
        Trial x = broken(9).does("tick(77)", "kind()", "kind()", "kind()", "task(2, 0, 0)", "open(2)", "open(2)");
        x.does("object(0)", "glass(3, 4, 9)", "read(3, 4)", "firm(1)", "object(0)");
        int[] due = {77, 6, 7, 2, 3, 2, 4};
        for (int what = 0; what <= 6; what++) {
            x.gives("count(" + what + ")", due[what]);
        }
        x.refuses("count(-1)", BAD).refuses("count(7)", BAD).refuses("count(8)", BAD);
        for (int far : FAR) {
            x.refuses("count(" + far + ")", BAD);
        }
    }
}

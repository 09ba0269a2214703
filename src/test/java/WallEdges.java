/** Reading and writing: the edges of the walls in Terms, and of promises 6, 7 and 19. */
public final class WallEdges extends Edges {
    public static void main(String[] args) {
        sentence("A user KNOWS the FIRMS .. of which he READ (or WROTE) an OBJECT", WallEdges::knows);
        sentence("A user KNOWS the FIRMS, OPEN ones apart", WallEdges::openIsNotKnown);
        sentence("but by a GLASS", WallEdges::byGlassIsNotKnown);
        sentence("and SAW those that he READ or WROTE by a GLASS.", WallEdges::saw);
        sentence("(Both stay.)", WallEdges::bothStay);
        sentence("READING .. granted, if f is OPEN", WallEdges::readingOpen);
        sentence("or he KNOWS it", WallEdges::readingKnown);
        sentence("or KNOWS none of its CLASS; else WALL.", WallEdges::readingWall);
        sentence("WRITING: WALL likewise", WallEdges::writingWall);
        sentence("LEAK, if f is OPEN and he KNOWS or SAW some FIRM", WallEdges::leakToOpen);
        sentence("or if he KNOWS or SAW another one than f.", WallEdges::leakToAnother);
        sentence("Whoever WRITES what is not OPEN, but by a GLASS, KNOWS it then, too.", WallEdges::writerKnows);
        sentence("BY A GLASS of his", WallEdges::glassOfHis);
        sentence("that runs", WallEdges::glassThatRuns);
        sentence("for f", WallEdges::glassForFirm);
        sentence("each of both is granted, whatever walls say", WallEdges::whateverWallsSay);
        sentence("(if they let him it is not by the GLASS)", WallEdges::notByGlass);
        sentence("he SAW f then, and KNOWS no more than before.", WallEdges::sawThen);
        sentence("READING: 0 granted, 1 by a GLASS. BAD; WALL; FULL.", WallEdges::readingOrder);
        sentence("WRITING, likewise. BAD; WALL; LEAK; FULL.", WallEdges::writingOrder);
        sentence("Of a user: what = 0 ROLES, 1 FIRMS that he KNOWS, 2 that he SAW (both as bits), 3 open DUTIES. BAD.",
                WallEdges::told);
        end();
    }

    private static void knows() {
        for (String call : new String[] {"read", "write"}) {
            Trial x = firms().gives("told(3, 1)", 0).gives(call + "(3, 1)", 0).gives("told(3, 1)", 1);
            x.gives(call + "(3, 1)", 0).gives("told(3, 1)", 1).gives("told(3, 2)", 0);
            x.gives("told(2, 1)", 0).gives("told(4, 1)", 0);
            firms().gives(call + "(0, 0)", 0).gives("told(0, 1)", 16).gives("told(1, 1)", 0);
            firms().gives(call + "(11, 3)", 0).gives("told(11, 1)", 4).gives("told(10, 1)", 0);
            last().gives(call + "(3, 0)", 0).gives("told(3, 1)", 1 << 23);
            last().gives(call + "(3, 1)", 0).gives("told(3, 1)", 1 << 22);
        }
        firms().does("read(3, 1)", "read(3, 3)").gives("told(3, 1)", 5);
        Trial refused = firms().does("read(3, 1)").refuses("read(3, 2)", WALL).refuses("write(3, 2)", WALL);
        refused.refuses("write(3, 3)", LEAK).gives("told(3, 1)", 1);
    }

    /** Firms 0 to 21 open, 22 and 23 of class 7; object 0 of firm 23, object 1 of firm 22, object 2 of firm 0. */
    private static Trial last() {
        return new Trial().times(22, "firm(-1)").does("firm(7)", "firm(7)", "object(23)", "object(22)", "object(0)");
    }

    private static void openIsNotKnown() {
        firms().gives("read(0, 4)", 0).gives("told(0, 1)", 0).gives("told(0, 2)", 0);
        firms().gives("write(0, 4)", 0).gives("told(0, 1)", 0).gives("told(0, 2)", 0);
        firms().gives("read(0, 4)", 0).gives("write(0, 1)", 0).gives("told(0, 1)", 1);
        firms().gives("write(0, 4)", 0).gives("write(0, 1)", 0).gives("told(0, 1)", 1);
        last().gives("read(0, 2)", 0).gives("told(0, 1)", 0).gives("write(0, 2)", 0).gives("told(0, 1)", 0);
        Trial first = new Trial().does("firm(-1)", "firm(0)", "object(0)", "object(1)");
        first.gives("write(0, 0)", 0).gives("read(0, 0)", 0).gives("told(0, 1)", 0).gives("write(0, 1)", 0);
        first.gives("told(0, 1)", 2);
    }

    private static void byGlassIsNotKnown() {
        broken(5).gives("read(3, 2)", 1).gives("told(3, 1)", 1);
        broken(5).gives("write(3, 2)", 1).gives("told(3, 1)", 1);
        // He knows no more of firm 1, so once the glass is over its wall stands as before.
        broken(1).does("read(3, 2)", "tick(1)").refuses("read(3, 2)", WALL).gives("read(3, 1)", 0);
        broken(1).does("write(3, 2)", "tick(1)").refuses("read(3, 2)", WALL).gives("read(3, 1)", 0);
    }

    private static void saw() {
        broken(5).gives("told(3, 2)", 0).gives("read(3, 2)", 1).gives("told(3, 2)", 2).gives("told(2, 2)", 0);
        broken(5).gives("told(3, 2)", 0).gives("write(3, 2)", 1).gives("told(3, 2)", 2).gives("told(4, 2)", 0);
        broken(5).gives("read(3, 1)", 0).gives("read(3, 3)", 0).gives("read(3, 4)", 0).gives("told(3, 2)", 0);
        Trial refused = broken(1).does("tick(1)").refuses("read(3, 2)", WALL).refuses("write(3, 2)", WALL);
        refused.gives("told(3, 2)", 0);
        broken(5).does("glass(3, 4, 5)", "read(3, 0)", "read(3, 2)").gives("told(3, 2)", 18);
        last().does("read(11, 1)", "glass(11, 23, 1)", "read(11, 0)").gives("told(11, 2)", 1 << 23);
        last().does("read(11, 0)", "glass(11, 22, 1)", "write(11, 1)").gives("told(11, 2)", 1 << 22);
    }

    private static void bothStay() {
        Trial x = broken(1).does("read(3, 2)", "tick(1)", "roles(3, 255)", "roles(3, 0)", "roles(2, 128)");
        x.does("takeOff(0, 2)").times(99, "tick(1000)").does("tick(999)");
        x.gives("count(0)", 100000).gives("told(3, 1)", 1).gives("told(3, 2)", 2);
        x.refuses("read(3, 2)", WALL).refuses("write(3, 1)", LEAK).refuses("write(3, 4)", LEAK);
        x.gives("alter(0, 2, 3)", 1).gives("alter(0, 1, 5)", 3).gives("alter(2, 3, 0)", 1);
        x.gives("told(3, 1)", 1).gives("told(3, 2)", 2).gives("told(5, 1)", 0);
        x.refuses("read(3, 2)", WALL).refuses("write(3, 1)", LEAK);
    }

    private static void readingOpen() {
        Trial x = firms().does("firm(-1)", "object(5)");
        x.gives("read(3, 4)", 0).gives("read(3, 5)", 0).gives("read(3, 4)", 0);
        x.does("read(3, 1)", "read(3, 3)").gives("read(3, 4)", 0).gives("read(3, 5)", 0).gives("told(3, 1)", 5);
        x.does("glass(3, 1, 1)", "read(3, 2)").gives("read(3, 4)", 0).gives("read(3, 5)", 0).gives("told(3, 2)", 2);
        for (int where = 0; where <= 7; where++) {
            Trial one = new Trial().does("firm(" + where + ")", "firm(-1)", "object(0)", "object(1)");
            one.does("read(0, 0)").gives("read(0, 1)", 0).gives("told(0, 1)", 1);
        }
    }

    private static void readingKnown() {
        Trial x = firms().does("read(3, 1)").gives("read(3, 1)", 0);
        x.does("object(0)").gives("read(3, 5)", 0);
        x.does("firm(0)", "object(5)").gives("read(3, 1)", 0).refuses("read(3, 6)", WALL).gives("read(3, 5)", 0);
        x.does("glass(3, 5, 1)", "read(3, 6)").gives("read(3, 1)", 0).gives("told(3, 1)", 1);
        firms().does("write(3, 1)").gives("read(3, 1)", 0).refuses("read(3, 2)", WALL);
    }

    private static void readingWall() {
        for (int where = 0; where <= 7; where++) {
            Trial x = new Trial();
            for (int other = 0; other <= 7; other++) {
                x.does("firm(" + other + ")", "object(" + other + ")");
            }
            x.does("firm(" + where + ")", "object(8)", "read(0, " + where + ")");
            for (int other = 0; other <= 7; other++) {
                x.gives("read(0, " + other + ")", 0);
            }
            x.refuses("read(0, 8)", WALL);
            x.gives("read(1, 8)", 0).refuses("read(1, " + where + ")", WALL);
        }
        Trial three = firms().does("read(3, 2)").refuses("read(3, 0)", WALL).refuses("read(3, 1)", WALL);
        three.gives("read(3, 3)", 0).gives("read(3, 2)", 0);
        // What another user knows, or saw, is no wall.
        broken(5).does("read(3, 2)").gives("read(2, 2)", 0).refuses("read(2, 1)", WALL);
        Trial ends = new Trial().does("firm(3)").times(22, "firm(-1)").does("firm(3)", "object(0)", "object(23)");
        ends.gives("read(0, 1)", 0).refuses("read(0, 0)", WALL).gives("read(1, 0)", 0).refuses("read(1, 1)", WALL);
    }

    private static void writingWall() {
        Trial x = firms().does("write(3, 1)").refuses("write(3, 2)", WALL).refuses("write(3, 0)", WALL);
        x.gives("write(3, 1)", 0).gives("count(6)", 2);
        firms().gives("write(3, 2)", 0).gives("write(2, 1)", 0).gives("write(4, 0)", 0);
        firms().does("read(3, 1)").refuses("write(3, 2)", WALL).gives("write(3, 1)", 0);
        // A rival of what he knows, when he knows another too: both refuse, WALL is the first.
        firms().does("read(3, 1)", "read(3, 3)").refuses("write(3, 2)", WALL).refuses("write(3, 1)", LEAK);
    }

    private static void leakToOpen() {
        firms().gives("write(3, 4)", 0).gives("write(3, 4)", 0);
        firms().does("read(3, 4)").gives("write(3, 4)", 0);
        firms().does("read(3, 1)").refuses("write(3, 4)", LEAK).gives("read(3, 4)", 0).gives("write(2, 4)", 0);
        firms().does("write(3, 3)").refuses("write(3, 4)", LEAK);
        firms().does("read(3, 0)").refuses("write(3, 4)", LEAK);
        broken(1).does("read(3, 2)").refuses("write(3, 4)", LEAK);
        broken(1).gives("write(2, 4)", 0);
        last().does("read(0, 0)").refuses("write(0, 2)", LEAK);
        last().does("read(0, 1)").refuses("write(0, 2)", LEAK);
        Trial first = new Trial().does("firm(0)", "firm(-1)", "object(0)", "object(1)", "read(0, 0)");
        first.refuses("write(0, 1)", LEAK);
        Trial openOnes = new Trial().does("firm(-1)", "firm(-1)", "object(0)", "object(1)");
        openOnes.does("read(0, 0)").gives("write(0, 1)", 0).gives("write(0, 0)", 0).gives("write(0, 1)", 0);
    }

    private static void leakToAnother() {
        firms().does("read(3, 1)").gives("write(3, 1)", 0).refuses("write(3, 3)", LEAK);
        firms().does("read(3, 3)").gives("write(3, 3)", 0).refuses("write(3, 1)", LEAK);
        Trial both = firms().does("read(3, 1)", "read(3, 3)").refuses("write(3, 1)", LEAK).refuses("write(3, 3)", LEAK);
        both.gives("read(3, 1)", 0).gives("read(3, 3)", 0);
        Trial x = broken(9).gives("write(3, 1)", 0).gives("read(3, 2)", 1).refuses("write(3, 1)", LEAK);
        x.gives("read(3, 1)", 0).refuses("write(3, 3)", LEAK);
        broken(9).gives("write(3, 2)", 1).refuses("write(3, 1)", LEAK);
        // A glass that was broken, and not used, shows nothing.
        broken(9).gives("write(3, 1)", 0).does("tick(9)").gives("write(3, 1)", 0);
        broken(9).does("read(3, 2)").gives("write(2, 3)", 0);
        last().does("read(0, 0)").gives("write(0, 0)", 0).refuses("write(0, 1)", WALL);
        Trial ends = new Trial().does("firm(0)").times(22, "firm(-1)").does("firm(1)", "object(0)", "object(23)");
        ends.does("read(0, 0)", "read(1, 1)").refuses("write(0, 1)", LEAK).refuses("write(1, 0)", LEAK);
        ends.gives("write(0, 0)", 0).gives("write(1, 1)", 0);
    }

    private static void writerKnows() {
        firms().gives("write(3, 1)", 0).gives("told(3, 1)", 1).refuses("read(3, 2)", WALL).refuses("write(3, 3)", LEAK);
        firms().gives("write(3, 4)", 0).gives("told(3, 1)", 0).gives("read(3, 2)", 0);
        broken(1).gives("write(3, 2)", 1).gives("told(3, 1)", 1).gives("told(3, 2)", 2);
        last().gives("write(0, 0)", 0).gives("told(0, 1)", 1 << 23).refuses("read(0, 1)", WALL);
    }

    private static void glassOfHis() {
        Trial x = broken(9).does("read(2, 1)", "read(4, 1)").refuses("read(2, 2)", WALL).refuses("write(2, 2)", WALL);
        x.refuses("read(4, 2)", WALL).refuses("write(4, 2)", WALL).gives("read(3, 2)", 1).gives("write(3, 2)", 1);
    }

    private static void glassThatRuns() {
        for (int minutes : new int[] {1, 2, 100}) {
            Trial x = firms().does("tick(7)", "read(3, 1)", "glass(3, 1, " + minutes + ")");
            x.gives("read(3, 2)", 1).gives("write(3, 2)", 1);
            if (minutes > 1) {
                x.does("tick(" + (minutes - 1) + ")").gives("read(3, 2)", 1).gives("write(3, 2)", 1);
            }
            x.does("tick(1)").refuses("read(3, 2)", WALL).refuses("write(3, 2)", WALL);
            x.does("tick(1)").refuses("read(3, 2)", WALL).refuses("write(3, 2)", WALL);
        }
        Trial second = broken(1).does("tick(1)", "glass(3, 1, 1)").gives("read(3, 2)", 1);
        second.does("tick(1)").refuses("read(3, 2)", WALL);
        Trial off = broken(2).does("roles(2, 128)", "takeOff(0, 2)").gives("read(3, 2)", 1).does("tick(1)");
        off.gives("write(3, 2)", 1).does("tick(1)").refuses("read(3, 2)", WALL);
    }

    private static void glassForFirm() {
        Trial x = broken(9).refuses("read(3, 0)", WALL).refuses("write(3, 0)", WALL).refuses("write(3, 3)", LEAK);
        x.refuses("write(3, 4)", LEAK).gives("write(3, 2)", 1);
        x.does("glass(3, 4, 1)").gives("read(3, 0)", 1).does("tick(1)").refuses("read(3, 0)", WALL);
        x.gives("read(3, 2)", 1);
        x.does("object(1)").gives("read(3, 5)", 1).gives("write(3, 5)", 1);
    }

    private static void whateverWallsSay() {
        broken(9).gives("read(3, 2)", 1).gives("read(3, 2)", 1);
        broken(9).gives("write(3, 2)", 1).gives("write(3, 2)", 1).gives("read(3, 2)", 1);
        // Without the glass the walls would say WALL, and, were there no WALL, LEAK.
        Trial x = broken(9).does("read(3, 3)", "glass(3, 4, 9)", "read(3, 0)").gives("write(3, 2)", 1);
        x.gives("write(3, 0)", 1).gives("told(3, 2)", 18);
        x.does("tick(9)").refuses("write(3, 2)", WALL).refuses("write(3, 0)", WALL);
    }

    private static void notByGlass() {
        Trial x = broken(9).gives("read(3, 1)", 0).gives("write(3, 1)", 0).gives("read(3, 3)", 0).gives("read(3, 4)", 0);
        x.gives("told(3, 2)", 0).gives("told(3, 1)", 5).gives("entry(2, 3)", 0).gives("entry(3, 3)", 0);
        x.gives("entry(4, 3)", 0).gives("entry(5, 3)", 0).gives("read(3, 2)", 1).gives("entry(6, 3)", 1);
    }

    private static void sawThen() {
        for (String call : new String[] {"read", "write"}) {
            Trial x = broken(9).gives("told(3, 1)", 1).gives("told(3, 2)", 0).gives(call + "(3, 2)", 1);
            x.gives("told(3, 1)", 1).gives("told(3, 2)", 2).gives(call + "(3, 2)", 1).gives("told(3, 1)", 1);
            x.gives("told(3, 2)", 2).gives("told(3, 3)", 1).gives("told(3, 0)", 0);
        }
    }

    private static void readingOrder() {
        Trial x = broken(9).gives("read(3, 1)", 0).gives("read(3, 2)", 1);
        x.refuses("read(12, 2)", BAD).refuses("read(3, 5)", BAD).refuses("read(12, 5)", BAD).refuses("read(-1, 0)", BAD);
        x.refuses("read(3, -1)", BAD).refuses("read(3, 0)", WALL);
        x.times(236, "read(2, 4)").gives("count(6)", 240);
        x.refuses("read(3, 5)", BAD).refuses("read(12, 1)", BAD).refuses("read(3, 0)", WALL);
        x.refuses("read(3, 1)", FULL).refuses("read(3, 2)", FULL).refuses("read(3, 4)", FULL).refuses("read(0, 3)", FULL);
    }

    private static void writingOrder() {
        Trial x = broken(9).gives("write(3, 1)", 0).gives("write(3, 2)", 1);
        x.refuses("write(12, 2)", BAD).refuses("write(3, 5)", BAD).refuses("write(-1, -1)", BAD);
        x.refuses("write(3, 0)", WALL).refuses("write(3, 1)", LEAK).refuses("write(3, 3)", LEAK);
        x.times(236, "write(2, 4)").gives("count(6)", 240);
        x.refuses("write(3, 5)", BAD).refuses("write(12, 1)", BAD).refuses("write(3, 0)", WALL);
        x.refuses("write(3, 1)", LEAK).refuses("write(3, 4)", LEAK);
        x.refuses("write(3, 2)", FULL).refuses("write(2, 4)", FULL).refuses("write(0, 3)", FULL);
    }

    private static void told() {
        Trial x = broken(9).does("read(3, 2)", "roles(3, 129)", "read(3, 3)", "glass(3, 4, 9)");
        int[] due = {129, 5, 2, 2};
        for (int what = 0; what <= 3; what++) {
            x.gives("told(3, " + what + ")", due[what]).gives("told(4, " + what + ")", 0);
        }
        for (int user : new int[] {0, 3, 11, 12}) {
            x.refuses("told(" + user + ", -1)", BAD).refuses("told(" + user + ", 4)", BAD);
            x.refuses("told(" + user + ", 5)", BAD);
        }
        for (int far : FAR) {
            x.refuses("told(3, " + far + ")", BAD).refuses("told(" + far + ", 0)", BAD);
        }
    }
}

/** Promises 18 to 25: what is done; each sentence that names a boundary case. */
public final class EdgeChangeTest {
    private static final int NONE = SharedSurplus.NONE;

    public static void main(String[] args) {
        set();
        setFromNowOn();
        turn();
        more();
        moreTooMany();
        kind();
        detour();
        detourUnderWay();
        detourBack();
        tick();
        mark();
        back();
        backIsAll();
        Edge.end();
    }

    private static SharedSurplus small() {
        return Nets.run("link 2 3 4 span 5;flow 0;flow 0 off left 9990;", "tick(3)", "mark()");
    }

    private static void set() {
        Edge e = new Edge("Promise 18", "RATE (what 0), ROOM (1), SPAN (2) of a LINK is another one from now on: what it was (1; 2; 4).");
        SharedSurplus x = small();
        e.due(x, "set(0, 0, 9)", 2);
        e.due(x, "set(0, 0, 1)", 9);
        e.due(x, "set(0, 1, 60)", 4);
        e.due(x, "set(0, 1, 1)", 60);
        e.due(x, "set(0, 2, 30)", 5);
        e.due(x, "set(0, 2, 2)", 30);
        e.dueEach(x, "link(0, ", 1, 3, 1, 2);
        e.refused(EdgeChangeTest::small, 1, "set(0, 0, 0)", "set(0, 0, 10)", "set(0, 1, 0)", "set(0, 1, 61)", "set(0, 2, 1)", "set(0, 2, 31)",
            "set(0, 3, 5)", "set(0, -1, 5)", "set(0, 0, -1)", "set(0, 0, 2147483647)", "set(0, 1, -2147483648)", "set(1, 0, 10)");
        e.refused(EdgeChangeTest::small, 2, "set(1, 0, 5)", "set(-1, 0, 5)", "set(1, 0, 2)");
        e.refused(EdgeChangeTest::small, 4, "set(0, 0, 2)", "set(0, 1, 4)", "set(0, 2, 5)");
    }

    private static void setFromNowOn() {
        Edge e = new Edge("Promise 18", "of a LINK is another one from now on");
        SharedSurplus x = Nets.run("link 1 1 60 span 30;flow 0;flow 0;flow 0;", "tick(1)", "set(0, 1, 2)");
        e.due(x, "link(0, 4)", 5);
        e.due(x, "set(0, 0, 3)", 1);
        e.due(x, "tick(1)", 2);
        e.due(x, "link(0, 4)", 2);
        e.due(x, "link(0, 5)", 3);
        e.due(x, "set(0, 2, 3)", 30);
        e.due(x, "tick(1)", 3);
        // The SPAN ended in tick 3, with 1, 3 and 2 that went; LOW is the new ROOM.
        e.due(x, "link(0, 17)", 6);
        e.due(x, "link(0, 7)", 2);
        // What was set stays so with the net only: another net has its own.
        Nets.load(x, "link 4 1 6;");
        e.dueEach(x, "link(0, ", 4, 1, 6, 10);
    }

    private static void turn() {
        Edge e = new Edge("Promise 19", "A FLOW is ON, or off, from now on (what flies goes on) (2; 4).");
        SharedSurplus x = Nets.run("link 1 1 60;flow 0;flow 0 off;", "tick(1)");
        e.due(x, "turn(0, false)", 1);
        e.due(x, "flow(0, 3)", 0);
        e.due(x, "turn(1, true)", 1);
        e.due(x, "flow(1, 3)", 1);
        e.due(x, "flow(0, 6)", 2);
        e.due(x, "tick(4)", 5);
        e.due(x, "flow(0, 8)", 2);
        e.due(x, "flow(0, 9)", 2);
        e.due(x, "flow(0, 6)", 0);
        e.due("the other one sends", x.flow(1, 8) >= 2);
        e.refused(EdgeChangeTest::small, 2, "turn(2, true)", "turn(2, false)", "turn(-1, true)", "turn(2147483647, false)");
        e.refused(EdgeChangeTest::small, 4, "turn(0, true)", "turn(1, false)");
        // One that was lost and comes back is LEFT again, of one that is off, too.
        SharedSurplus y = Nets.run("link 1 1 1;flow 0 left 2;", "tick(1)", "turn(0, false)", "tick(9)");
        e.due(y, "flow(0, 1)", 1);
        e.due(y, "flow(0, 10)", 1);
        e.due(y, "flow(0, 9)", 1);
        e.due(y, "flow(0, 8)", 2);
    }

    private static void more() {
        Edge e = new Edge("Promise 20", "A FLOW has more to send (1 to 9,999): LEFT then");
        SharedSurplus x = Nets.of("link 1 1 60;flow 0 left 0;flow 0 left 0;");
        e.due(x, "more(0, 1)", 1);
        e.due(x, "more(0, 1)", 2);
        e.due(x, "flow(0, 1)", 2);
        e.due(x, "more(1, 9999)", 9999);
        e.due(x, "flow(1, 1)", 9999);
        e.refused(EdgeChangeTest::small, 1, "more(0, 0)", "more(0, 10000)", "more(0, -1)", "more(0, 2147483647)", "more(0, -2147483648)", "more(2, 0)");
        e.refused(EdgeChangeTest::small, 2, "more(2, 1)", "more(-1, 1)", "more(2, 9999)");
    }

    private static void moreTooMany() {
        Edge e = new Edge("Promise 20", "(1; 2; 3: above 9,999)");
        e.due(small(), "more(1, 9)", 9999);
        e.refused(EdgeChangeTest::small, 3, "more(1, 10)", "more(1, 9999)", "more(0, 9999)");
        e.refused(() -> Nets.of("link 1 1 1;flow 0;"), 3, "more(0, 1)");
    }

    private static void kind() {
        Edge e = new Edge("Promise 21", "A FLOW is of another KIND: which it was (1; 2; 4).");
        SharedSurplus x = small();
        int[] row = {3, 1, 2, 0};
        int was = 0;
        for (int kind : row) {
            e.due(x, "kind(0, " + kind + ")", was);
            e.due(x, "flow(0, 2)", kind);
            e.due(x, "flow(1, 2)", 0);
            was = kind;
        }
        e.refused(EdgeChangeTest::small, 1, "kind(0, 4)", "kind(0, -1)", "kind(2, 4)", "kind(0, 2147483647)");
        e.refused(EdgeChangeTest::small, 2, "kind(2, 0)", "kind(-1, 1)");
        e.refused(EdgeChangeTest::small, 4, "kind(0, 0)", "kind(1, 0)");
        e.refused(Nets::lived, 4, "kind(1, 3)", "kind(2, 2)");
        // From now on: a greedy one flies four, a liar tells three times, and a deaf one keeps its WINDOW (EdgeTickTest).
        SharedSurplus y = Nets.run("link 9 9 60;flow 0;", "tick(3)", "kind(0, 3)", "tick(1)");
        e.due(y, "flow(0, 6)", 4);
        e.due(y, "kind(0, 0)", 3);
        e.due(y, "flow(0, 6)", 4);
    }

    private static SharedSurplus three() {
        return Nets.run("link 1 1 60;link 1 2 60;link 1 4 60;flow 0 1;flow 2;", "tick(2)", "mark()");
    }

    private static void detour() {
        Edge e = new Edge("Promise 22", "(1: i below 0; 2: of the LINK, too; 4: it is, or is in the PATH; 5: no such i)");
        SharedSurplus x = three();
        e.due(x, "detour(0, 1, 2)", 1);
        e.dueEach(x, "path(0, ", 0, 2);
        e.due(x, "detour(0, 0, 1)", 0);
        e.dueEach(x, "path(0, ", 1, 2);
        e.refused(EdgeChangeTest::three, 1, "detour(0, -1, 2)", "detour(0, -2147483648, 2)", "detour(2, -1, 3)");
        e.refused(EdgeChangeTest::three, 2, "detour(2, 0, 2)", "detour(-1, 0, 2)", "detour(0, 0, 3)", "detour(0, 0, -1)", "detour(0, 9, 3)");
        e.refused(EdgeChangeTest::three, 4, "detour(0, 0, 0)", "detour(0, 0, 1)", "detour(0, 1, 0)", "detour(1, 0, 2)", "detour(0, 2, 0)", "detour(0, 2147483647, 1)");
        e.refused(EdgeChangeTest::three, 5, "detour(0, 2, 2)", "detour(1, 1, 0)", "detour(0, 4, 2)", "detour(0, 2147483647, 2)");
        // What was left by a detour may be taken again.
        e.due(x, "detour(0, 1, 0)", 2);
        e.dueEach(x, "path(0, ", 1, 0);
    }

    private static void detourUnderWay() {
        Edge e = new Edge("Promise 22", "LINK i of a PATH is another LINK from now on (those that left so many LINKS come to that; BACK is new): which it was");
        // In tick 1 one is on the wire of link 0 and one in its ROW: each has i = 1 ahead, and comes to link 2 or 1 as it is then.
        SharedSurplus x = Nets.run("link 1 1 60;link 1 2 60;link 1 4 60;flow 0 1 left 2;", "tick(1)");
        e.due(x, "detour(0, 1, 2)", 1);
        e.due(x, "tick(1)", 2);
        e.due(x, "link(2, 5)", 1);
        e.due(x, "link(1, 5)", 0);
        e.due(x, "detour(0, 1, 1)", 2);
        e.due(x, "tick(1)", 3);
        e.due(x, "link(1, 5)", 1);
        e.due(x, "link(2, 5)", 1);
        // One that stands in a ROW stays there, though the LINK is in the PATH no more.
        SharedSurplus y = Nets.run("link 1 1 60;link 1 2 60;flow 0 left 2;", "tick(1)", "detour(0, 0, 1)");
        e.due(y, "link(0, 4)", 1);
        e.due(y, "tick(1)", 2);
        e.due(y, "link(0, 5)", 1);
        e.due(y, "link(1, 4)", 0);
    }

    private static void detourBack() {
        Edge e = new Edge("Promise 22", "BACK is new");
        SharedSurplus x = Nets.run("link 1 1 60;link 1 9 60;flow 0 left 2;", "tick(2)");
        // The first is sent back in tick 2 for one TICK; the second is off its wire in tick 3, and is sent back for 9.
        e.due(x, "detour(0, 0, 1)", 0);
        e.due(x, "flow(0, 4)", 9);
        e.due(x, "flow(0, 7)", 2);
        e.due(x, "tick(1)", 3);
        e.due(x, "flow(0, 9)", 1);
        e.due(x, "tick(8)", 11);
        e.due(x, "flow(0, 9)", 1);
        e.due(x, "tick(1)", 12);
        e.due(x, "flow(0, 9)", 2);
        e.due(x, "flow(0, 7)", 11);
    }

    private static void tick() {
        Edge e = new Edge("Promise 23", "TICKS go by (1 to 60): the TICK (1).");
        SharedSurplus x = small();
        e.due(x, "tick(1)", 4);
        e.due(x, "tick(60)", 64);
        e.due(x, "many(2)", 64);
        e.refused(EdgeChangeTest::small, 1, "tick(0)", "tick(61)", "tick(-1)", "tick(2147483647)", "tick(-2147483648)");
        SharedSurplus one = Nets.lived();
        SharedSurplus many = Nets.lived();
        for (int n = 0; n < 60; n++) {
            one.tick(1);
        }
        many.tick(60);
        e.due("sixty at once are as one by one", Future.of(one).equals(Future.of(many)));
    }

    private static void mark() {
        Edge e = new Edge("Promise 24", "A MARK more: how many (3).");
        SharedSurplus x = Nets.of("link 1 1 1;flow 0;");
        for (int n = 1; n <= 3; n++) {
            e.due(x, "mark()", n);
            e.due(x, "many(3)", n);
        }
        e.refused(() -> Nets.run("link 1 1 1;flow 0;", "tick(1)", "mark()", "tick(2)", "mark()", "tick(3)", "mark()", "tick(4)"), 3, "mark()");
    }

    private static void back() {
        Edge e = new Edge("Promise 25", "All is taken back to the latest MARK: how many are left (5).");
        SharedSurplus x = Nets.run("link 1 1 1;flow 0;", "mark()", "tick(1)", "mark()", "tick(1)");
        e.due(x, "back()", 1);
        e.due(x, "many(2)", 1);
        e.due(x, "back()", 0);
        e.due(x, "many(2)", 0);
        e.refused(() -> Nets.run("link 1 1 1;flow 0;", "tick(7)"), 5, "back()");
        e.refused(() -> Nets.run("link 1 1 1;flow 0;", "tick(7)", "mark()", "tick(2)", "back()"), 5, "back()");
    }

    private static void backIsAll() {
        Edge e = new Edge("Promise 25", "All is taken back to the latest MARK");
        String[] changes = {"tick(31)", "set(0, 0, 9)", "set(0, 1, 1)", "set(1, 2, 9)", "turn(0, false)", "more(2, 50)", "kind(0, 3)", "detour(0, 1, 2)"};
        for (String change : changes) {
            SharedSurplus x = Calls.all(Nets.lived(), "mark()", change, "tick(5)", change, "back()");
            e.due("all is as it was ahead of " + change, Future.of(x).equals(Future.of(Nets.lived())));
        }
        // LOW in the midst of a SPAN, which shows in PLUS and MINUS as it ends.
        SharedSurplus low = Nets.run("link 1 1 60 span 4;flow 0;flow 0;flow 0;", "tick(2)", "mark()", "tick(30)", "back()");
        e.due(low, "link(0, 7)", 4);
        e.due("all goes on", Future.of(low).equals(Future.of(Nets.run("link 1 1 60 span 4;flow 0;flow 0;flow 0;", "tick(2)"))));
        // Another NET, too; what fault() tells and the tape are of the latest load() and of those who feed.
        SharedSurplus y = Nets.lived();
        y.mark();
        String before = Snapshot.ofNet(y);
        e.due(y, "load(20)", 1);
        e.due(y, "tick(9)", 9);
        e.due(y, "back()", 1);
        e.due(y, "mark()", 2);
        e.due("the old NET", Snapshot.ofNet(y).equals(before));
        e.due(y, "fault(0)", 0);
        y.load(0);
        Nets.feed(y, "link 1 1 1;flow 0;  ");
        Calls.all(y, "back()", "mark()");
        e.due("the tape is as it was fed", y.feed(0, 0, 0, 0, 0), 40);
        // A MARK holds though what came behind it was taken back.
        Calls.all(y, "tick(9)", "back()", "tick(3)", "back()");
        e.due(y, "many(2)", 10);
        e.due("back()", y.back(), NONE);
    }
}

/** Promises 1, 2 and 6 to 17: what there is; each sentence that names a boundary case. */
public final class EdgeAskTest {
    private static final int NONE = SharedSurplus.NONE;

    public static void main(String[] args) {
        newObject();
        status();
        many();
        link();
        linkSpans();
        flow();
        path();
        packet();
        packetNone();
        event();
        eventNone();
        given();
        where();
        eldest();
        past();
        top();
        topNone();
        alike();
        Edge.end();
    }

    private static void newObject() {
        Edge e = new Edge("Promise 1", "No LINKS, FLOWS, MARKS; TICK 0; an empty tape; STATUS 0.");
        e.due("status()", new SharedSurplus().status(), 0);
        e.dueEach(new SharedSurplus(), "many(", 0, 0, 0, 0, 0, 0, 0, 0, 1000, 0);
        e.due(new SharedSurplus(), "feed(0, 0, 0, 0, 0)", 20);
        e.refused(SharedSurplus::new, 1, "load(1)");
        e.refused(SharedSurplus::new, 2, "link(0, 0)", "flow(0, 0)", "path(0, 0)", "packet(0, 0, 0)", "given(0, 0)", "where(0, 0)", "eldest(0)",
            "past(0, 0)", "alike(0, 0)", "set(0, 0, 1)", "turn(0, true)", "more(0, 1)", "kind(0, 0)", "detour(0, 0, 0)", "best(0)", "neck(0)",
            "when(0)", "caught(0)", "without(0, 0, 1)", "least(0, 0, 1)");
        e.refused(SharedSurplus::new, 5, "event(0, 0)", "top(0)", "back()");
        e.due(new SharedSurplus(), "closes(0)", 0);
        e.dueEach(new SharedSurplus(), "after(120, ", 1000, 0, 0, 0, 0);
        e.dueEach(new SharedSurplus(), "blind(120, ", 1000, 0, 0, 0, 0);
        e.due(new SharedSurplus(), "tick(60)", 60);
        e.due(new SharedSurplus(), "mark()", 1);
        e.due(new SharedSurplus(), "load(0)", 0);
    }

    private static void status() {
        Edge e = new Edge("Promise 2", "STATUS of the latest call that has one.");
        SharedSurplus x = Nets.lived();
        String[] calls = {"many(10)", "link(9, 0)", "more(0, 9999)", "turn(0, true)", "event(23, 0)", "closes(0)", "load(13)", "many(0)"};
        int[] due = {1, 2, 3, 4, 5, 6, 9, 0};
        for (int i = 0; i < calls.length; i++) {
            Calls.ask(x, calls[i]);
            e.due("status() behind " + calls[i], x.status(), due[i]);
            e.due("status() once more", x.status(), due[i]);
        }
    }

    private static void many() {
        Edge e = new Edge("Promise 6", "EVENTS that are kept (7), EVEN (8), GAP (9) (1).");
        // Tick 1: four come, the fourth is lost, one goes; tick 2: another one goes.
        SharedSurplus x = Nets.run("link 1 2 3 span 4;flow 0;flow 0 left 5;", "tick(2)", "mark()");
        e.dueEach(x, "many(", 1, 2, 2, 1, 1, 2, 1, 1, 1000, 0);
        e.refused(Nets::lived, 1, "many(10)", "many(-1)", "many(2147483647)", "many(-2147483648)");
    }

    private static void link() {
        Edge e = new Edge("Promise 7", "17: in the latest SPAN that ended (0 without) (1; 2).");
        SharedSurplus x = Nets.run("link 1 2 3 span 4;flow 0;flow 0 left 5;", "tick(2)");
        e.dueEach(x, "link(0, ", 1, 2, 3, 4, 1, 2, 3, 1, 0, 0, 1, 1, 1, 1, 0, 0, 2, 0);
        e.refused(Nets::lived, 1, "link(0, 18)", "link(0, -1)", "link(0, 2147483647)", "link(3, 18)");
        e.refused(Nets::lived, 2, "link(3, 0)", "link(-1, 17)", "link(6, 0)");
        e.due("link(2, 17) of the last link", Nets.lived().link(2, 17) >= 0);
    }

    private static void linkSpans() {
        Edge e = new Edge("Promise 7", "16: how many went on its wire since its SPAN began, 17: in the latest SPAN that ended (0 without)");
        // Four come in tick 1 and one goes a tick.
        SharedSurplus x = Nets.of("link 1 2 60 span 3;flow 0 left 2;flow 0 left 2;");
        int[] since = {1, 2, 0, 1, 1, 0, 0, 0, 0};
        int[] latest = {0, 0, 3, 3, 3, 1, 1, 1, 0};
        e.due(x, "link(0, 16)", 0);
        e.due(x, "link(0, 17)", 0);
        for (int n = 0; n < since.length; n++) {
            x.tick(1);
            e.due(x, "link(0, 16)", since[n]);
            e.due(x, "link(0, 17)", latest[n]);
        }
    }

    private static void flow() {
        Edge e = new Edge("Promise 8", "11: LINKS where it is CAUGHT, as a SET (1; 2).");
        // TURN 20 and SPAN 4: CLAIM 0; four came to links 0 (in ticks 1 and 2) and 1 (6 and 7), SPANS that ended in 4 and 8.
        SharedSurplus x = Nets.run("link 9 5 60 span 4;link 9 5 60 span 4;flow 0 1 greedy;", "tick(4)");
        e.due(x, "flow(0, 11)", 1);
        e.due(x, "tick(4)", 8);
        e.due(x, "flow(0, 11)", 2);
        SharedSurplus y = Nets.run("link 9 5 60 span 8;link 9 5 60 span 8;flow 0 1 greedy;", "tick(8)");
        e.due(y, "flow(0, 11)", 3);
        e.due(y, "link(0, 14)", 1);
        e.due(y, "link(1, 14)", 1);
        e.due(y, "tick(8)", 16);
        e.due(y, "flow(0, 11)", 0);
        e.dueEach(Nets.of("link 1 2 3;link 9 3 60;flow 1 0 liar left 40;"), "flow(0, ", 2, 40, 2, 1, 5, 200, 0, 10, 0, 0, 0, 0);
        e.refused(Nets::lived, 1, "flow(0, 12)", "flow(0, -1)", "flow(0, 2147483647)", "flow(5, 12)");
        e.refused(Nets::lived, 2, "flow(5, 0)", "flow(-1, 11)", "flow(6, 0)");
    }

    private static void path() {
        Edge e = new Edge("Promise 9", "LINK i of a PATH (1: i below 0; 2; 5).");
        SharedSurplus x = Nets.of("link 1 1 1;".repeat(4) + "flow 2 0 3 1;flow 3;");
        e.dueEach(x, "path(0, ", 2, 0, 3, 1);
        e.due(x, "path(1, 0)", 3);
        e.refused(() -> Nets.of("link 1 1 1;".repeat(4) + "flow 2 0 3 1;flow 3;"), 5, "path(0, 4)", "path(1, 1)", "path(1, 4)", "path(0, 2147483647)");
        e.refused(Nets::lived, 1, "path(0, -1)", "path(0, -2147483648)", "path(5, -1)");
        e.refused(Nets::lived, 2, "path(5, 0)", "path(-1, 0)");
    }

    private static void packet() {
        Edge e = new Edge("Promise 10", "6: its share if it had it now (1: i below 0, too; 2; 5)");
        // Link 0 lets two of three pass: the liar's two come to link 1 in tick 2, where one of two goes.
        SharedSurplus x = Nets.run("link 2 1 60;link 1 1 60;flow 0 1 liar;flow 1;", "tick(2)");
        e.due(x, "link(1, 4)", 2);
        e.dueEach(x, "packet(1, 0, ", 0, 1, 1, 200, 12, 0, 0);
        e.dueEach(x, "packet(1, 1, ", 0, 1, 1, 200, 12, 0, 0);
        e.refused(() -> Nets.run("link 2 1 60;link 1 1 60;flow 0 1 liar;flow 1;", "tick(2)"), 5, "packet(1, 2, 0)", "packet(0, 0, 0)", "packet(1, 2147483647, 6)");
        e.refused(Nets::lived, 1, "packet(0, -1, 0)", "packet(0, 0, 7)", "packet(0, 0, -1)", "packet(3, 0, 7)", "packet(0, -2147483648, 0)");
        e.refused(Nets::lived, 2, "packet(3, 0, 0)", "packet(-1, 0, 0)");
        // As if it were the front one: the share of each, were it next.
        SharedSurplus y = Nets.parted("tick(1)");
        e.due(y, "packet(0, 0, 6)", 20);
        e.due(y, "packet(0, 1, 6)", 27);
        e.due("the asking gives nothing away", y.given(0, 0), 13);
    }

    private static void packetNone() {
        Edge e = new Edge("Promise 10", "STATUS tells NONE from -1.");
        // PLUS and MINUS 30 of three came; PART 92 of 285 is 9, less 10.
        SharedSurplus x = Nets.run("link 1 1 60 span 3;flow 0;", "tick(12)");
        e.due(x, "link(0, 4)", 1);
        e.due(x, "packet(0, 0, 6)", -1);
        e.due("packet(0, 1, 6)", x.packet(0, 1, 6), NONE);
        e.due("status()", x.status(), 5);
    }

    private static void event() {
        Edge e = new Edge("Promise 11", "Of the i-th EVENT, the latest first (0 to 23), what 0: kind, 1: TICK, 2: LINK, 3: FLOW (1; 5)");
        SharedSurplus x = Nets.run("link 1 1 1;flow 0 left 2;", "tick(1)");
        e.dueEach(x, "event(0, ", 0, 1, 0, 0);
        e.dueEach(x, "event(1, ", 3, 1, NONE, 0);
        e.refused(() -> Nets.run("link 1 1 1;flow 0 left 2;", "tick(1)"), 5, "event(2, 0)", "event(23, 3)");
        e.refused(() -> Nets.run("link 1 1 1;flow 0 left 2;", "tick(1)"), 1, "event(24, 0)", "event(-1, 0)", "event(0, 4)", "event(0, -1)", "event(2, 4)",
            "event(2147483647, 0)", "event(-2147483648, 0)");
        SharedSurplus full = Nets.run("link 1 1 1;" + "flow 0 greedy;".repeat(6), "tick(20)");
        e.due(full, "many(7)", 24);
        e.due("event(23, 0)", full.event(23, 0) >= 0 && full.status() == 0);
        e.due("event(24, 0)", full.event(24, 0), NONE);
        e.due("status()", full.status(), 1);
    }

    private static void eventNone() {
        Edge e = new Edge("Promise 11", "STATUS tells NONE from -1.");
        SharedSurplus x = Nets.run("link 9 1 1;flow 0 left 1;", "tick(1)");
        e.due(x, "event(0, 2)", -1);
        e.due("event(1, 2)", x.event(1, 2), NONE);
        e.due("status()", x.status(), 5);
    }

    private static void given() {
        Edge e = new Edge("Promise 12", "GOT times PLUS by WEIGHT, TOOK times MINUS by COUNT, cut (1; 2).");
        e.dueEach(Nets.of("link 1 1 1;flow 0;"), "given(0, ", 0, 0);
        // 40 * 100 / 300, and 630 * 1 / 12: both are cut.
        SharedSurplus x = Nets.run("link 1 1 9 span 4;flow 0 left 1;flow 0 left 1;flow 0 left 1;", "tick(4)", "more(0, 1)", "tick(1)");
        e.dueEach(x, "given(0, ", 13, 0);
        SharedSurplus y = Nets.run("link 1 1 60 span 2;" + "flow 0;".repeat(6), "tick(3)");
        e.dueEach(y, "given(0, ", 0, 52);
        e.refused(Nets::lived, 1, "given(0, 2)", "given(0, -1)", "given(3, 2)");
        e.refused(Nets::lived, 2, "given(3, 0)", "given(-1, 1)");
    }

    private static void where() {
        Edge e = new Edge("Promise 13", "come back (2), come back lost (3, of these) (1; 2).");
        SharedSurplus x = Nets.run("link 1 2 3 span 4;flow 0;flow 0 left 5;", "tick(2)");
        e.dueEach(x, "where(0, ", 0, 2, 0, 0);
        e.dueEach(x, "where(1, ", 1, 0, 1, 1);
        e.due(x, "tick(1)", 3);
        e.dueEach(x, "where(0, ", 0, 1, 1, 0);
        e.dueEach(Nets.of("link 1 1 1;flow 0;"), "where(0, ", 0, 0, 0, 0);
        e.refused(Nets::lived, 1, "where(0, 4)", "where(0, -1)", "where(5, 4)");
        e.refused(Nets::lived, 2, "where(5, 0)", "where(-1, 3)");
    }

    private static void eldest() {
        Edge e = new Edge("Promise 14", "The TICK in which that of a FLOW's packets was sent that flies longest (2; 5).");
        // Two of tick 1 are back in 3 and 4; those of flow 1 wait.
        SharedSurplus x = Nets.run("link 1 1 60 span 30;flow 0;flow 0;", "tick(3)");
        e.due(x, "eldest(0)", 1);
        e.due(x, "tick(1)", 4);
        e.due(x, "eldest(0)", 3);
        e.due(x, "eldest(1)", 1);
        // One on a wire flies, one that comes back, too, and one that is lost.
        SharedSurplus w = Nets.run("link 1 9 1;flow 0 left 1;", "tick(9)");
        e.due(w, "where(0, 1)", 1);
        e.due(w, "eldest(0)", 1);
        SharedSurplus y = Nets.run("link 1 9 1;flow 0 left 1;flow 0 left 1;", "tick(18)");
        e.due(y, "where(0, 2)", 1);
        e.due(y, "eldest(0)", 1);
        SharedSurplus z = Nets.run("link 1 9 1;flow 0 left 1;flow 0 left 1;", "tick(9)");
        e.due(z, "where(1, 3)", 1);
        e.due(z, "eldest(1)", 1);
        e.refused(() -> Nets.run("link 1 9 1;flow 0 left 1;flow 0 off;", "tick(19)"), 5, "eldest(0)", "eldest(1)");
        e.refused(Nets::lived, 2, "eldest(5)", "eldest(-1)");
        e.refused(Nets::lived, 5, "eldest(4)");
    }

    private static void past() {
        Edge e = new Edge("Promise 15", "WINDOW of a FLOW at the end of the i-th TICK of PAST, the latest first (0 to 19) (1; 2; 5).");
        SharedSurplus x = Nets.run("link 1 2 3 span 4;flow 0;flow 0 left 5;", "tick(3)");
        e.dueEach(x, "past(0, ", 200, 200, 200);
        e.dueEach(x, "past(1, ", 100, 200, 200);
        e.refused(() -> Nets.run("link 1 2 3 span 4;flow 0;", "tick(3)"), 5, "past(0, 3)", "past(0, 19)");
        e.refused(() -> Nets.of("link 1 2 3 span 4;flow 0;"), 5, "past(0, 0)");
        e.refused(Nets::lived, 1, "past(0, 20)", "past(0, -1)", "past(5, 20)", "past(0, 2147483647)");
        e.refused(Nets::lived, 2, "past(5, 0)", "past(-1, 19)");
        SharedSurplus y = Nets.run("link 1 2 3 span 4;flow 0;", "tick(20)");
        e.due(y, "past(0, 19)", 200);
        // A new net has no PAST.
        Nets.load(y, "link 1 1 1;flow 0;");
        e.due("past(0, 0)", y.past(0, 0), NONE);
        e.due("status()", y.status(), 5);
    }

    private static void top() {
        Edge e = new Edge("Promise 16", "The FLOW with the greatest WINDOW (what 0), DONE (1), LOST (2), of several the first (1; 5: no FLOWS).");
        SharedSurplus x = Nets.of("link 9 1 60;flow 0;flow 0;flow 0;");
        e.dueEach(x, "top(", 0, 0, 0);
        // WINDOWS 213, 220, 207; DONE 2 each.
        SharedSurplus y = Nets.parted("tick(5)");
        e.dueEach(y, "top(", 1, 0, 0);
        // Of one that is off, too: flow 1 has lost two, flow 2 as many.
        SharedSurplus z = Nets.run("link 1 1 2;flow 0;flow 0;flow 0;", "tick(2)", "turn(1, false)");
        e.due(z, "flow(1, 10)", 2);
        e.due(z, "flow(2, 10)", 2);
        e.due(z, "top(2)", 1);
        SharedSurplus w = Nets.run("link 9 1 60;flow 0 off;flow 0 left 1;flow 0 left 2;flow 0 left 2;", "tick(3)");
        e.due(w, "top(1)", 2);
    }

    private static void topNone() {
        Edge e = new Edge("Promise 16", "(1; 5: no FLOWS)");
        e.refused(Nets::lived, 1, "top(3)", "top(-1)", "top(2147483647)");
        e.refused(() -> Nets.of("link 1 1 1;"), 5, "top(0)", "top(1)", "top(2)");
    }

    private static void alike() {
        Edge e = new Edge("Promise 17", "How two PATHS are alike: 2 the same, 1 one is the other one backwards, 0 neither (2).");
        SharedSurplus x = Nets.of("link 1 1 1;link 1 1 1;link 1 1 1;flow 0 1 2;flow 2 1 0;flow 0 1;flow 0 1 2;flow 0;flow 1 0 2;");
        int[][] due = {{0, 3, 2}, {0, 0, 2}, {0, 1, 1}, {1, 0, 1}, {0, 2, 0}, {2, 0, 0}, {4, 4, 2}, {4, 2, 0}, {5, 0, 0}, {0, 4, 0}, {5, 1, 0}};
        for (int[] d : due) {
            e.due(x, "alike(" + d[0] + ", " + d[1] + ")", d[2]);
        }
        // Unlike in the first or in the last LINK alone.
        SharedSurplus ends = Nets.of("link 1 1 1;".repeat(4) + "flow 0 1 2;flow 3 1 2;flow 0 1 3;flow 2 1 3;flow 3 1 0;");
        for (int other = 1; other <= 4; other++) {
            e.due(ends, "alike(0, " + other + ")", 0);
            e.due(ends, "alike(" + other + ", 0)", 0);
        }
        // A PATH of one LINK is the same backwards: 2 comes first.
        e.due(Nets.of("link 1 1 1;flow 0;flow 0;"), "alike(0, 1)", 2);
        SharedSurplus four = Nets.of("link 1 1 1;".repeat(4) + "flow 0 1 2 3;flow 3 2 1 0;flow 3 2 0 1;flow 1 2 3;flow 0 1 2;");
        e.due(four, "alike(0, 1)", 1);
        e.due(four, "alike(0, 2)", 0);
        e.due(four, "alike(0, 3)", 0);
        e.due(four, "alike(0, 4)", 0);
        e.refused(Nets::lived, 2, "alike(0, 5)", "alike(5, 0)", "alike(-1, 0)", "alike(0, -1)", "alike(5, 5)");
    }
}

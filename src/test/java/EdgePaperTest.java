/** Promises 26 to 34: what could be, and what is told on paper; each sentence that names a boundary case. */
public final class EdgePaperTest {
    private static final int NONE = SharedSurplus.NONE;
    /** Rounds of 72 ticks: two are sent in tick 1, back in 73 and 74; the next two in 145 and 146. */
    private static final String LONG = "link 1 9 60;".repeat(4);

    public static void main(String[] args) {
        best();
        neck();
        when();
        whenNever();
        closes();
        closesNever();
        caught();
        caughtNever();
        after();
        afterTells();
        without();
        withoutItself();
        blind();
        leastRate();
        leastRoom();
        leastAnyLink();
        leastLost();
        leastRefused();
        Edge.end();
    }

    private static void best() {
        Edge e = new Edge("Promise 26", "BEST RATE of a FLOW (2).");
        SharedSurplus x = Nets.of("link 5 1 9;link 2 1 9;link 1 1 9;flow 0 1;flow 0;flow 1 2;flow 2;flow 2 off;");
        int[] due = {1500, 3500, 500, 500, 0};
        for (int f = 0; f < 5; f++) {
            e.due(x, "best(" + f + ")", due[f]);
        }
        e.refused(Nets::lived, 2, "best(5)", "best(-1)", "best(2147483647)");
    }

    private static void neck() {
        Edge e = new Edge("Promise 27", "The LINK at which a FLOW that is ON stops to grow (2; 5: it is off).");
        SharedSurplus x = Nets.of("link 5 1 9;link 2 1 9;link 1 1 9;flow 0 1;flow 0;flow 1 2;flow 2;flow 2 off;");
        int[] due = {1, 0, 2, 2};
        for (int f = 0; f < 4; f++) {
            e.due(x, "neck(" + f + ")", due[f]);
        }
        e.refused(Nets::lived, 5, "neck(4)");
        e.refused(Nets::lived, 2, "neck(5)", "neck(-1)");
        x.turn(4, true);
        e.due(x, "neck(4)", 2);
    }

    private static void when() {
        Edge e = new Edge("Promise 28", "In how many TICKS a FLOW has LEFT 0 and FLYING 0 (0: it has) (2; 6).");
        SharedSurplus x = Nets.of("link 1 2 5 span 4;flow 0 left 3;flow 0 left 0;flow 0 off left 0;");
        e.due(x, "when(0)", 9);
        e.due(x, "when(1)", 0);
        e.due(x, "when(2)", 0);
        e.due(x, "tick(8)", 8);
        e.due(x, "when(0)", 1);
        e.due(x, "tick(1)", 9);
        e.due(x, "when(0)", 0);
        // LEFT 0 alone is not enough, and FLYING 0 alone is not.
        SharedSurplus y = Nets.run("link 1 9 5;flow 0 left 1;", "tick(1)");
        e.due(y, "flow(0, 1)", 0);
        e.due(y, "when(0)", 18);
        SharedSurplus z = Nets.of("link 1 9 5;flow 0 left 1;");
        e.due(z, "flow(0, 6)", 0);
        e.due(z, "when(0)", 19);
        e.refused(Nets::lived, 2, "when(5)", "when(-1)");
    }

    private static void whenNever() {
        Edge e = new Edge("Promise 28", "(0: it has) (2; 6)");
        e.refused(() -> Nets.of("link 1 1 1;flow 0 off left 1;"), 6, "when(0)");
        e.refused(() -> Nets.of("link 1 1 60;flow 0;"), 6, "when(0)");
        String text = LONG + "flow 0 1 2 3 left 4;";
        e.refused(() -> Nets.run(text, "tick(25)"), 6, "when(0)");
        e.due(Nets.run(text, "tick(26)"), "when(0)", 120);
        e.due(Nets.run(text, "tick(27)"), "when(0)", 119);
    }

    /** WINDOWS 213, 220 and 200 in tick 8, and 213, 220 and 207 from tick 9 on. */
    private static SharedSurplus closing() {
        return Nets.parted("tick(4)");
    }

    private static void closes() {
        Edge e = new Edge("Promise 29", "In how many TICKS GAP is at most so much (0: it is) (1: below 0; 6).");
        e.due(closing(), "many(9)", 20);
        e.due(closing(), "closes(21)", 0);
        e.due(closing(), "closes(20)", 0);
        e.due(closing(), "closes(19)", 1);
        e.due(closing(), "closes(13)", 1);
        e.due(closing(), "closes(2147483647)", 0);
        e.refused(EdgePaperTest::closing, 6, "closes(12)", "closes(0)");
        e.refused(EdgePaperTest::closing, 1, "closes(-1)", "closes(-2147483648)");
        e.due(Nets.of("link 1 1 1;flow 0;flow 0;"), "closes(0)", 0);
        e.due(Nets.of("link 1 1 1;"), "closes(0)", 0);
    }

    private static void closesNever() {
        Edge e = new Edge("Promise 29", "(0: it is) (1: below 0; 6)");
        // Flow 1 has 1,200 from tick 7 on; flow 0 has 200 till the third one's FEED of 400 in tick 145.
        String text = LONG + "link 9 1 60 span 4;flow 0 1 2 3 left 4;flow 4 left 1;";
        String[] start = {"tick(4)", "more(1, 1)", "tick(20)"};
        e.due(Nets.run(text, start), "many(9)", 1000);
        e.refused(() -> Nets.run(text, start), 6, "closes(600)", "closes(999)");
        SharedSurplus x = Nets.run(text, start);
        e.due(x, "tick(1)", 25);
        e.due(x, "closes(600)", 120);
        e.due(x, "closes(999)", 120);
        e.due(x, "closes(1000)", 0);
        e.due("closes(599)", x.closes(599), NONE);
        e.due("status()", x.status(), 6);
    }

    private static void caught() {
        Edge e = new Edge("Promise 30", "In how many TICKS a FLOW is CAUGHT anywhere (0: it is) (2; 6).");
        SharedSurplus x = Nets.of("link 9 1 60;link 9 1 60 span 4;flow 1 liar;");
        e.due(x, "caught(0)", 4);
        e.due(x, "tick(3)", 3);
        e.due(x, "caught(0)", 1);
        e.due(x, "tick(1)", 4);
        e.due(x, "caught(0)", 0);
        e.refused(Nets::lived, 2, "caught(5)", "caught(-1)");
        e.refused(() -> Nets.of("link 9 1 60 span 4;flow 0 liar;flow 0 off;"), 6, "caught(1)");
    }

    private static void caughtNever() {
        Edge e = new Edge("Promise 30", "(0: it is) (2; 6)");
        // WINDOW 600 in tick 145: six are sent in ticks 145 to 147, CLAIM 0; the SPAN ends in 150.
        String text = LONG + "flow 0 1 2 3;";
        e.refused(() -> Nets.run(text, "tick(29)"), 6, "caught(0)");
        e.due(Nets.run(text, "tick(30)"), "caught(0)", 120);
        e.due(Nets.run(text, "tick(31)"), "caught(0)", 119);
    }

    private static void after() {
        Edge e = new Edge("Promise 31", "Behind n TICKS (0 to 120)");
        SharedSurplus now = Nets.lived();
        int row = Math.max(now.link(0, 4), Math.max(now.link(1, 4), now.link(2, 4)));
        e.dueEach(now, "after(0, ", now.many(8), now.many(9), 0, 0, row);
        e.due("there is a ROW", row > 0);
        SharedSurplus then = Calls.all(Nets.lived(), "tick(60)", "tick(60)");
        int done = 0;
        int lost = 0;
        int longest = 0;
        for (int f = 0; f < 5; f++) {
            done += then.flow(f, 9) - now.flow(f, 9);
            lost += then.flow(f, 10) - now.flow(f, 10);
        }
        for (int l = 0; l < 3; l++) {
            longest = Math.max(longest, then.link(l, 4));
        }
        e.dueEach(now, "after(120, ", then.many(8), then.many(9), done, lost, longest);
        e.due("something is done and lost", done > 0 && lost > 0);
        e.refused(Nets::lived, 1, "after(-1, 0)", "after(121, 0)", "after(2147483647, 0)", "after(-2147483648, 0)");
    }

    private static void afterTells() {
        Edge e = new Edge("Promise 31", "what 0: EVEN, 1: GAP, 2: by how much DONE of all FLOWS together is more, 3: by how much LOST is, 4: the greatest ROW then (1).");
        // Tick 1: one of four is lost, two stand; tick 2: one stands; tick 3: the lost one is back, and one is done.
        SharedSurplus x = Nets.of("link 1 2 3 span 4;flow 0;flow 0 left 5;");
        e.dueEach(x, "after(1, ", 1000, 0, 0, 0, 2);
        e.dueEach(x, "after(2, ", 1000, 0, 0, 0, 1);
        e.dueEach(x, "after(3, ", 900, 100, 0, 1, 0);
        e.dueEach(x, "after(5, ", 900, 100, 1, 1, 0);
        // Six of each: one of two is lost of each flow in tick 1, and back in 2. The greatest ROW may be that of the last link.
        String six = "flow 0;flow 1;flow 2;flow 3;flow 4;flow 5;";
        e.dueEach(Nets.of("link 1 1 1;".repeat(6) + six), "after(2, ", 1000, 0, 0, 6, 0);
        e.dueEach(Nets.of("link 9 1 60;".repeat(5) + "link 1 1 60;" + six), "after(1, ", 1000, 0, 0, 0, 1);
        e.dueEach(Nets.of("link 9 1 60;".repeat(6) + six), "after(3, ", 1000, 0, 12, 0, 0);
        e.refused(Nets::lived, 1, "after(1, 5)", "after(1, -1)", "after(0, 5)", "after(121, 5)");
    }

    private static void without() {
        Edge e = new Edge("Promise 32", "How many of a FLOW would be DONE in n TICKS (1 to 120), if another FLOW were off from now on");
        // Flow 1's two are back in ticks 3 and 4 without flow 0's ahead of them, else in 5 and 6.
        SharedSurplus x = Nets.of("link 1 1 60 span 30;flow 0;flow 0;");
        int[] alone = {0, 0, 1, 2};
        for (int n = 1; n <= 4; n++) {
            e.due(x, "without(1, 0, " + n + ")", alone[n - 1]);
            e.due(x, "without(1, 1, " + n + ")", 0);
        }
        // What flies goes on, and it counts from now on.
        e.due(x, "tick(4)", 4);
        e.due(x, "without(0, 1, 1)", 0);
        e.due(x, "without(1, 0, 1)", 1);
        e.due(x, "without(1, 0, 2)", 2);
        SharedSurplus now = Nets.lived();
        SharedSurplus then = Calls.all(Nets.lived(), "turn(1, false)", "tick(60)", "tick(60)");
        e.due(now, "without(0, 1, 120)", then.flow(0, 9) - now.flow(0, 9));
        e.due("one that is off already makes no difference", now.without(0, 4, 120), now.without(0, 0, 120));
        e.refused(Nets::lived, 1, "without(0, 1, 0)", "without(0, 1, 121)", "without(0, 1, -1)", "without(5, 5, 0)");
        e.refused(Nets::lived, 2, "without(5, 0, 1)", "without(0, 5, 1)", "without(-1, 0, 1)", "without(0, -1, 120)");
    }

    private static void withoutItself() {
        Edge e = new Edge("Promise 32", "(itself: none is) (1; 2)");
        SharedSurplus x = Nets.of("link 9 1 60;flow 0;flow 0;");
        e.due(x, "without(0, 0, 5)", 4);
        e.due(x, "without(0, 1, 5)", 4);
        e.due(x, "without(1, 1, 3)", 2);
    }

    private static void blind() {
        Edge e = new Edge("Promise 33", "What after() tells, if all FLOWS are BLIND from now on (n 0 to 120) (1).");
        SharedSurplus x = Nets.lived();
        for (int what = 0; what <= 4; what++) {
            e.due(x, "blind(0, " + what + ")", x.after(0, what));
        }
        // Two of flow 0 and one of flow 1 are done in tick 3: 200, 250, 290 and 200, 250.
        SharedSurplus y = Nets.of("link 9 1 60 span 30;flow 0;flow 0 left 1;");
        e.dueEach(y, "blind(3, ", 994, 40, 3, 0, 0);
        e.dueEach(y, "after(3, ", 1000, 0, 3, 0, 0);
        SharedSurplus z = Nets.of("link 1 1 3;flow 0;flow 0;");
        e.dueEach(z, "blind(1, ", 1000, 0, 0, 0, 2);
        e.dueEach(z, "blind(2, ", 900, 100, 0, 1, 1);
        e.due("blind(120, 2)", x.blind(120, 2) > 0 && x.status() == 0);
        e.refused(Nets::lived, 1, "blind(-1, 0)", "blind(121, 0)", "blind(1, 5)", "blind(1, -1)", "blind(2147483647, 0)");
        // None is BLIND behind it: two are sent in every other tick up to 19, and back two ticks later.
        SharedSurplus w = Nets.of("link 9 1 60 span 30;flow 0 left 20;flow 0 left 1;");
        String[] calls = {"when(0)", "without(0, 0, 15)", "closes(0)", "least(0, 0, 10)", "after(15, 2)"};
        int[] due = {21, 14, 0, 1, 15};
        for (int i = 0; i < calls.length; i++) {
            e.due("DONE, BLIND", w.blind(15, 2) > 15);
            e.due(w, calls[i], due[i]);
        }
        e.due("DONE, BLIND", w.blind(15, 2) > 15);
        e.due(w, "tick(15)", 15);
        e.due(w, "flow(0, 9)", 14);
        e.due("after(120, 0)", Calls.all(Nets.lived(), "blind(120, 0)").after(120, 0), Nets.lived().after(120, 0));
    }

    /** Six greedy ones send two each in ticks 1 and 2, and no more for long: twelve, and 24 less RATE, must have room. */
    private static SharedSurplus rush(int rate, int room) {
        return Nets.of("link " + rate + " 9 " + room + ";" + "flow 0 greedy;".repeat(6));
    }

    private static void leastRate() {
        Edge e = new Edge("Promise 34", "The least RATE (what 0, of 1 to 9)");
        int[][] due = {{60, 1}, {23, 1}, {22, 2}, {16, 8}, {15, 9}};
        for (int[] d : due) {
            e.due(rush(5, d[0]), "least(0, 0, 2)", d[1]);
            e.due(rush(5, d[0]), "least(0, 0, 10)", d[1]);
        }
        e.refused(() -> rush(5, 14), 6, "least(0, 0, 2)", "least(0, 0, 10)");
        e.due(rush(5, 14), "least(0, 0, 1)", 1);
        e.due(rush(5, 12), "least(0, 0, 1)", 1);
        e.refused(() -> rush(5, 11), 6, "least(0, 0, 1)");
    }

    private static void leastRoom() {
        Edge e = new Edge("Promise 34", "ROOM (1, of 10, 20, .. 60) of a LINK by which, all else as it is, no packet is LOST at any LINK in n TICKS (1 to 10)");
        int[][] due = {{1, 30}, {3, 30}, {4, 20}, {9, 20}};
        for (int[] d : due) {
            e.due(rush(d[0], 1), "least(0, 1, 2)", d[1]);
        }
        e.due(Nets.of("link 1 9 1;" + "flow 0;".repeat(5)), "least(0, 1, 1)", 10);
        e.due(Nets.of("link 1 9 1;" + "flow 0;".repeat(6)), "least(0, 1, 1)", 20);
        e.due(Nets.of("link 1 9 60;flow 0 off;"), "least(0, 1, 10)", 10);
        // Six of WINDOW 4,000 send twelve a tick, of which one goes: 12, 23, 34, 45, 56 and 67 must have room.
        for (int n = 1; n <= 5; n++) {
            e.due(flood(), "least(0, 1, " + n + ")", 10 + 10 * n);
        }
        e.refused(EdgePaperTest::flood, 6, "least(0, 1, 6)", "least(0, 1, 10)");
    }

    private static SharedSurplus flood() {
        SharedSurplus x = Nets.run("link 9 1 60 span 2;".repeat(6) + "flow 0;flow 1;flow 2;flow 3;flow 4;flow 5;", "tick(60)");
        return Calls.all(x, "detour(1, 0, 0)", "detour(2, 0, 0)", "detour(3, 0, 0)", "detour(4, 0, 0)", "detour(5, 0, 0)", "set(0, 0, 1)");
    }

    private static void leastAnyLink() {
        Edge e = new Edge("Promise 34", "no packet is LOST at any LINK");
        // Six come to link 1, of ROOM 4, as fast as link 0 lets them: RATE 5 is too fast, 4 is not, as one goes on ahead of the rest.
        SharedSurplus x = Nets.of("link 6 1 60;link 1 1 4;flow 0 1;flow 0 1;flow 0 1;");
        e.due(x, "least(0, 0, 2)", 1);
        e.due(x, "least(1, 1, 2)", 10);
        e.refused(() -> Nets.of("link 6 1 60;link 1 1 4;flow 0 1;flow 0 1;flow 0 1;"), 6, "least(1, 0, 2)", "least(0, 1, 2)");
        e.due(x, "least(1, 0, 1)", 1);
    }

    private static void leastLost() {
        Edge e = new Edge("Promise 34", "no packet is LOST at any LINK in n TICKS (1 to 10)");
        // Lost in tick 1 and back in 10: it counts where it is lost, not when it is back.
        SharedSurplus x = Nets.of("link 1 9 1;flow 0 left 2;");
        e.due(x, "least(0, 1, 1)", 10);
        e.due("least(0, 0, 1)", x.least(0, 0, 1), NONE);
        e.due("status()", x.status(), 6);
        e.due(x, "tick(1)", 1);
        e.due(x, "where(0, 3)", 1);
        e.due(x, "least(0, 0, 9)", 1);
        e.due(x, "least(0, 0, 10)", 1);
        e.due(x, "least(0, 1, 10)", 10);
    }

    private static void leastRefused() {
        Edge e = new Edge("Promise 34", "in n TICKS (1 to 10) (1; 2; 6).");
        e.refused(Nets::lived, 1, "least(0, 2, 1)", "least(0, -1, 1)", "least(0, 0, 0)", "least(0, 0, 11)", "least(0, 1, -1)", "least(3, 2, 1)", "least(3, 0, 11)",
            "least(0, 0, 2147483647)");
        e.refused(Nets::lived, 2, "least(3, 0, 1)", "least(-1, 1, 10)", "least(3, 1, 10)");
        // Where nothing could be lost the least there is will do, in 1 TICK and in 10.
        SharedSurplus x = Nets.of("link 9 1 60;flow 0 off;");
        e.due(x, "least(0, 0, 1)", 1);
        e.due(x, "least(0, 0, 10)", 1);
        e.due(x, "least(0, 1, 1)", 10);
        e.due(x, "least(0, 1, 10)", 10);
    }
}

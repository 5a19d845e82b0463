/** Promises 18 to 25: what is done, ticks and marks among it. */
public final class ChangeTest {
    public static void main(String[] args) {
        settings();
        settingsWork();
        turning();
        more();
        kinds();
        kindsWork();
        detours();
        detourUnderWay();
        ticks();
        spanNumbers();
        shares();
        feedIsTheLeast();
        caughtLoses();
        bounds();
        orderOfReturns();
        marks();
        Check.end();
    }

    private static void settings() {
        Check c = new Check("18");
        SharedSurplus x = Nets.of("link 2 3 4 span 5;flow 0;");
        x.tick(3);
        c.due("set(0, 0, 9)", x.set(0, 0, 9), 2);
        c.due("set(0, 1, 60)", x.set(0, 1, 60), 4);
        c.due("set(0, 2, 30)", x.set(0, 2, 30), 5);
        c.due("set(0, 0, 1)", x.set(0, 0, 1), 9);
        c.due("set(0, 1, 1)", x.set(0, 1, 1), 60);
        c.due("set(0, 2, 2)", x.set(0, 2, 2), 30);
        c.due("RATE", x.link(0, 0), 1);
        c.due("LAG", x.link(0, 1), 3);
        c.due("ROOM", x.link(0, 2), 1);
        c.due("SPAN", x.link(0, 3), 2);
        int[][] bad = {{0, 0}, {0, 10}, {1, 0}, {1, 61}, {2, 1}, {2, 31}, {3, 5}, {-1, 5}};
        for (int[] b : bad) {
            c.refused(x, "set(0, " + b[0] + ", " + b[1] + ")", 1, () -> x.set(0, b[0], b[1]));
            c.refused(x, "set(1, " + b[0] + ", " + b[1] + ")", 1, () -> x.set(1, b[0], b[1]));
        }
        c.refused(x, "set(1, 0, 5)", 2, () -> x.set(1, 0, 5));
        c.refused(x, "set(-1, 0, 5)", 2, () -> x.set(-1, 0, 5));
        c.refused(x, "set(0, 0, 1)", 4, () -> x.set(0, 0, 1));
        c.refused(x, "set(0, 1, 1)", 4, () -> x.set(0, 1, 1));
        c.refused(x, "set(0, 2, 2)", 4, () -> x.set(0, 2, 2));
    }

    private static void settingsWork() {
        Check c = new Check("18");
        SharedSurplus x = Nets.of("link 1 1 60 span 30;flow 0;flow 0;flow 0;");
        x.tick(1);
        c.due("ROW", x.link(0, 4), 5);
        x.set(0, 1, 2);
        c.due("those in the ROW stay", x.link(0, 4), 5);
        x.set(0, 0, 3);
        x.tick(1);
        c.due("three go", x.link(0, 4), 2);
        x.set(0, 2, 3);
        x.tick(1);
        // Two of flow 0 went in ticks 1 and 2; one is back in 3, but ROW is ROOM then.
        c.due("lost", x.event(0, 0), 0);
        c.due("in", x.event(0, 1), 3);
        c.due("the SPAN ended in tick 3", x.link(0, 17), 6);
        c.due("LOW is the new ROOM", x.link(0, 7), 2);
        SharedSurplus y = Nets.of("link 1 1 60;flow 0;flow 0;");
        y.tick(1);
        y.set(0, 1, 1);
        y.tick(2);
        c.due("a ROW above ROOM lets nobody in", y.event(0, 0), 0);
    }

    private static void turning() {
        Check c = new Check("19");
        SharedSurplus x = Nets.of("link 1 1 60;flow 0;flow 0 off;");
        c.refusedFlag(x, "turn(0, true)", 4, () -> x.turn(0, true));
        c.refusedFlag(x, "turn(1, false)", 4, () -> x.turn(1, false));
        c.refusedFlag(x, "turn(2, true)", 2, () -> x.turn(2, true));
        c.refusedFlag(x, "turn(-1, false)", 2, () -> x.turn(-1, false));
        x.tick(1);
        c.due("turn(0, false)", x.turn(0, false), true);
        c.due("status()", x.status(), 0);
        c.due("turn(1, true)", x.turn(1, true), true);
        c.due("ON", x.flow(0, 3), 0);
        c.due("ON", x.flow(1, 3), 1);
        x.tick(5);
        c.due("what flies goes on", x.flow(0, 9), 2);
        c.due("no more is sent", x.flow(0, 8), 2);
        c.due("the other one sends", x.flow(1, 8) > 0, true);
    }

    private static void more() {
        Check c = new Check("20");
        SharedSurplus x = Nets.of("link 1 1 60;flow 0 left 0;flow 0;");
        c.due("more(0, 1)", x.more(0, 1), 1);
        c.due("more(0, 9998)", x.more(0, 9998), 9999);
        c.due("LEFT", x.flow(0, 1), 9999);
        c.refused(x, "more(0, 1)", 3, () -> x.more(0, 1));
        c.refused(x, "more(1, 9999)", 3, () -> x.more(1, 9999));
        c.refused(x, "more(1, 0)", 1, () -> x.more(1, 0));
        c.refused(x, "more(1, -5)", 1, () -> x.more(1, -5));
        c.refused(x, "more(1, 10000)", 1, () -> x.more(1, 10000));
        c.refused(x, "more(2, 10000)", 1, () -> x.more(2, 10000));
        c.refused(x, "more(2, 5)", 2, () -> x.more(2, 5));
        c.refused(x, "more(-1, 5)", 2, () -> x.more(-1, 5));
        SharedSurplus y = Nets.of("link 1 1 60;flow 0 left 0;");
        c.due("more(0, 9999)", y.more(0, 9999), 9999);
        y.tick(1);
        c.due("it sends", y.flow(0, 1), 9997);
    }

    private static void kinds() {
        Check c = new Check("21");
        SharedSurplus x = Nets.of("link 1 1 60;flow 0;");
        c.due("kind(0, 3)", x.kind(0, 3), 0);
        c.due("kind(0, 1)", x.kind(0, 1), 3);
        c.due("kind(0, 2)", x.kind(0, 2), 1);
        c.due("kind(0, 0)", x.kind(0, 0), 2);
        c.due("KIND", x.flow(0, 2), 0);
        c.refused(x, "kind(0, 0)", 4, () -> x.kind(0, 0));
        c.refused(x, "kind(0, 4)", 1, () -> x.kind(0, 4));
        c.refused(x, "kind(1, -1)", 1, () -> x.kind(1, -1));
        c.refused(x, "kind(1, 0)", 2, () -> x.kind(1, 0));
        c.refused(x, "kind(-1, 0)", 2, () -> x.kind(-1, 0));
    }

    private static void kindsWork() {
        Check c = new Check("21 and 23");
        SharedSurplus greedy = Nets.of("link 9 9 60;flow 0;");
        greedy.kind(0, 3);
        greedy.tick(3);
        c.due("a greedy one flies twice its WINDOW", greedy.flow(0, 6), 4);
        SharedSurplus liar = Nets.of("link 1 1 60;flow 0;flow 0;");
        liar.kind(1, 2);
        liar.tick(1);
        c.due("an honest one's TURN", liar.packet(0, 0, 4), 2);
        c.due("a liar tells it three times", liar.packet(0, 1, 4), 6);
        c.due("its own is as it is", liar.flow(1, 7), 2);
        // All six have the share -42 each in ticks 3 and later (AskTest), those of ticks 1 and 2 have 0.
        SharedSurplus deaf = Nets.of("link 1 1 60 span 2;flow 0;flow 0 deaf;flow 0;");
        deaf.tick(5);
        c.due("WINDOW of a deaf one", deaf.flow(1, 5), 200);
        deaf.kind(1, 0);
        deaf.tick(1);
        c.due("WINDOW of one that is honest now", deaf.flow(1, 5) < 200, true);
    }

    private static void detours() {
        Check c = new Check("22");
        SharedSurplus x = Nets.of("link 1 1 60;link 1 2 60;link 1 4 60;flow 0 1;flow 2;");
        c.due("detour(0, 1, 2)", x.detour(0, 1, 2), 1);
        c.due("path(0, 0)", x.path(0, 0), 0);
        c.due("path(0, 1)", x.path(0, 1), 2);
        c.due("BACK", x.flow(0, 4), 5);
        c.due("TURN stays", x.flow(0, 7), 6);
        c.due("detour(0, 0, 1)", x.detour(0, 0, 1), 0);
        c.due("BACK", x.flow(0, 4), 6);
        c.refused(x, "detour(0, -1, 0)", 1, () -> x.detour(0, -1, 0));
        c.refused(x, "detour(9, -1, 0)", 1, () -> x.detour(9, -1, 0));
        c.refused(x, "detour(2, 0, 0)", 2, () -> x.detour(2, 0, 0));
        c.refused(x, "detour(-1, 0, 0)", 2, () -> x.detour(-1, 0, 0));
        c.refused(x, "detour(0, 0, 3)", 2, () -> x.detour(0, 0, 3));
        c.refused(x, "detour(0, 0, -1)", 2, () -> x.detour(0, 0, -1));
        c.refused(x, "detour(0, 0, 1)", 4, () -> x.detour(0, 0, 1));
        c.refused(x, "detour(0, 0, 2)", 4, () -> x.detour(0, 0, 2));
        c.refused(x, "detour(0, 7, 2)", 4, () -> x.detour(0, 7, 2));
        c.refused(x, "detour(0, 2, 0)", 5, () -> x.detour(0, 2, 0));
        c.refused(x, "detour(1, 1, 0)", 5, () -> x.detour(1, 1, 0));
    }

    private static void detourUnderWay() {
        Check c = new Check("22");
        SharedSurplus x = Nets.of("link 1 1 60;link 1 2 60;link 1 4 60;flow 0 1 left 2;");
        x.tick(1);
        // One is on the wire of link 0, one in its row: both come to link 2 now, and are back in 5 ticks.
        x.detour(0, 1, 2);
        x.tick(1);
        c.due("on the wire of link 2", x.link(2, 5), 1);
        c.due("none on link 1", x.link(1, 5) + x.link(1, 4), 0);
        x.detour(0, 1, 1);
        x.tick(1);
        c.due("the second one goes to link 1 again", x.link(1, 5), 1);
        x.tick(2);
        // The second one is off its wire in tick 5, and is back BACK, 3, ticks later; the first: tick 6, and 3.
        c.due("come back", x.where(0, 2), 1);
        x.tick(3);
        c.due("DONE", x.flow(0, 9), 1);
        c.due("TURN", x.flow(0, 7), 7);
        x.tick(1);
        c.due("DONE", x.flow(0, 9), 2);
        c.due("TURN", x.flow(0, 7), 8);
    }

    private static void ticks() {
        Check c = new Check("23");
        SharedSurplus x = Nets.of("link 1 1 60;flow 0;");
        c.due("tick(1)", x.tick(1), 1);
        c.due("tick(60)", x.tick(60), 61);
        c.due("TICK", x.many(2), 61);
        c.refused(x, "tick(0)", 1, () -> x.tick(0));
        c.refused(x, "tick(61)", 1, () -> x.tick(61));
        c.refused(x, "tick(-1)", 1, () -> x.tick(-1));
        SharedSurplus one = Nets.of("link 2 1 5 span 3;link 1 2 4 span 4;flow 0 1;flow 1 greedy;flow 1 0 liar;");
        SharedSurplus many = Nets.of("link 2 1 5 span 3;link 1 2 4 span 4;flow 0 1;flow 1 greedy;flow 1 0 liar;");
        for (int n = 0; n < 47; n++) {
            one.tick(1);
        }
        many.tick(47);
        c.due("many ticks are as one by one", Snapshot.of(one).equals(Snapshot.of(many)), true);
    }

    private static void spanNumbers() {
        Check c = new Check("23");
        SharedSurplus x = Nets.of("link 9 1 60 span 3;link 1 1 60 span 2;flow 0 1;flow 0 1;flow 0 1;");
        x.tick(2);
        // Six came to link 1 in tick 2, its ROW was 0 in tick 1: SPARE -4, PHI -160, SHUFFLE 0.
        c.due("PLUS", x.link(1, 8), 0);
        c.due("MINUS", x.link(1, 9), 160);
        c.due("WEIGHT", x.link(1, 10), 1200);
        c.due("COUNT", x.link(1, 11), 6);
        c.due("FAIR, 1 at least", x.link(1, 15), 1);
        x.tick(2);
        // None came, LOW 3: PHI 80 - 69.
        c.due("PLUS", x.link(1, 8), 11);
        c.due("MINUS", x.link(1, 9), 0);
        c.due("WEIGHT, 1 at least", x.link(1, 10), 1);
        c.due("COUNT, 1 at least", x.link(1, 11), 1);
        c.due("FAIR, if none came", x.link(1, 15), 2);
        c.due("SPAN of link 0 ended in tick 3", x.link(0, 17), 6);
        c.due("FAIR of link 0", x.link(0, 15), 9);
    }

    private static void shares() {
        Check c = new Check("23");
        SharedSurplus x = Nets.of("link 2 1 60 span 2;flow 0;flow 0 liar;");
        x.tick(2);
        // Four came, PHI 0: SHUFFLE 40. PARTS 100, 100, 300, 300.
        c.due("PLUS", x.link(0, 8), 40);
        c.due("MINUS", x.link(0, 9), 40);
        c.due("WEIGHT", x.link(0, 10), 800);
        x.tick(1);
        // Two of flow 0: 5 less 10 each.
        c.due("given(0, 0)", x.given(0, 0), 10);
        c.due("given(0, 1)", x.given(0, 1), 20);
        x.tick(2);
        c.due("WINDOW", x.flow(0, 5), 190);
        x.tick(1);
        // Two of flow 1 in tick 4, PART 450: 32 less 10 less 10, then WEIGHT holds: 40 less 32 less 10.
        c.due("WINDOW of the liar", x.flow(1, 5), 210);
    }

    private static void feedIsTheLeast() {
        Check c = new Check("23");
        SharedSurplus x = Nets.of("link 9 1 60 span 4;link 1 1 60 span 2;flow 1 0;");
        x.tick(5);
        // Of link 1 none came in ticks 3 and 4: 80 by WEIGHT 1, which the one that is sent in tick 5 gets whole.
        c.due("given(1, 0)", x.given(1, 0), 80);
        // Of link 0 it gets 200 of 400 of 1,360 in tick 6, which is more; the next one gets nothing of link 1.
        c.due("PLUS of link 0", x.link(0, 8), 1360);
        x.tick(1);
        c.due("given(0, 0)", x.given(0, 0), 680);
        x.tick(2);
        c.due("WINDOW", x.flow(0, 5), 200);
        x.tick(1);
        c.due("WINDOW", x.flow(0, 5), 280);
        x.tick(1);
        c.due("WINDOW", x.flow(0, 5), 280);
    }

    private static void caughtLoses() {
        Check c = new Check("23");
        SharedSurplus x = Nets.of("link 1 1 60 span 8;flow 0 liar;flow 0;flow 0;");
        x.tick(8);
        c.due("CAUGHT", x.link(0, 14) & 1, 1);
        c.due("FAIR", x.link(0, 15), 2);
        x.set(0, 0, 9);
        x.turn(1, false);
        x.turn(2, false);
        x.tick(7);
        c.due("no more than FAIR of it came in", x.link(0, 6), 2);
        c.due("it is lost, though there is room", x.event(0, 0), 0);
        c.due("of", x.event(0, 3), 0);
    }

    private static void bounds() {
        Check c = new Check("23");
        SharedSurplus x = Nets.of("link 9 1 60 span 2;flow 0;");
        int greatest = 0;
        for (int n = 0; n < 60; n++) {
            x.tick(1);
            greatest = Math.max(greatest, x.flow(0, 5));
        }
        c.due("WINDOW is held to 4,000", greatest, 4000);
        SharedSurplus y = Nets.of("link 1 9 1;flow 0;");
        y.tick(1);
        c.due("LEFT", y.flow(0, 1), 9997);
        y.more(0, 2);
        y.tick(9);
        c.due("LOST", y.flow(0, 10), 1);
        c.due("LEFT is 9,999 at most", y.flow(0, 1), 9999);
        c.due("WINDOW", y.flow(0, 5), 100);
        SharedSurplus z = Nets.of("link 1 1 1;flow 0;flow 0;");
        z.tick(2);
        // All but one were lost: flow 1's WINDOW was halved twice, and held to 100.
        c.due("LOST", z.flow(1, 10), 2);
        c.due("WINDOW", z.flow(1, 5), 100);
        SharedSurplus w = Nets.of("link 9 1 60;flow 0;");
        w.tick(1);
        c.due("two a TICK at most", w.flow(0, 8), 2);
        SharedSurplus v = Nets.of("link 9 9 60;flow 0 greedy;");
        v.tick(1);
        c.due("two a TICK of a greedy one", v.flow(0, 8), 2);
    }

    private static void orderOfReturns() {
        Check c = new Check("23");
        SharedSurplus x = Nets.of("link 9 1 60;link 1 3 1;flow 0 left 1;flow 1 left 2 greedy;flow 0 left 1;");
        x.tick(3);
        // Flows 0 and 2 are through in tick 3, in the order in which they were sent back.
        c.due("the latest", x.event(0, 3), 2);
        c.due("ahead of it", x.event(1, 3), 0);
        c.due("kind", x.event(1, 0), 4);
        x.tick(1);
        // That lost in tick 1 is back 3 ticks later.
        c.due("LOST", x.flow(1, 10), 1);
        c.due("DONE", x.flow(1, 9), 0);
    }

    private static void marks() {
        Check c = new Check("24 and 25");
        SharedSurplus x = Nets.of("link 2 1 5 span 3;link 1 2 4 span 4;flow 0 1;flow 1 greedy;flow 1 0 liar;");
        c.refused(x, "back()", 5, x::back);
        x.tick(7);
        String[] states = new String[3];
        for (int n = 0; n < 3; n++) {
            states[n] = Snapshot.ofNet(x);
            c.due("mark()", x.mark(), n + 1);
            x.tick(11);
            x.set(0, 0, 5 + n);
            x.kind(0, n + 1);
            if (n == 1) {
                Nets.load(x, "link 3 3 3;flow 0;");
            }
        }
        c.refused(x, "mark()", 3, x::mark);
        x.tick(5);
        for (int n = 2; n >= 0; n--) {
            c.due("back()", x.back(), n);
            c.due("all is taken back", Snapshot.ofNet(x).equals(states[n]), true);
        }
        c.refused(x, "back()", 5, x::back);
        x.tick(3);
        SharedSurplus y = Nets.of("link 2 1 5 span 3;link 1 2 4 span 4;flow 0 1;flow 1 greedy;flow 1 0 liar;");
        y.tick(10);
        c.due("it goes on from there", Snapshot.ofNet(x).equals(Snapshot.ofNet(y)), true);
        SharedSurplus z = new SharedSurplus();
        c.due("a mark ahead of any net", z.mark(), 1);
        Nets.load(z, "link 1 1 1;flow 0;");
        c.due("back()", z.back(), 0);
        c.due("LINKS", z.many(0), 0);
    }
}

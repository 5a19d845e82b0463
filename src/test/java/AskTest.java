/** Promises 6 to 17: what there is. The numbers are worked out by hand along sections 2 to 5. */
public final class AskTest {
    public static void main(String[] args) {
        counts();
        links();
        flows();
        paths();
        packets();
        negativeShares();
        events();
        allKindsOfEvents();
        gifts();
        places();
        pasts();
        tops();
        pathsAlike();
        Check.end();
    }

    /** Two flows of one link that lets one pass a tick; two ticks are gone. */
    private static SharedSurplus crowded() {
        SharedSurplus x = Nets.of("link 1 2 3 span 4;flow 0;flow 0 left 5;");
        x.tick(2);
        return x;
    }

    private static void counts() {
        Check c = new Check("6");
        SharedSurplus x = crowded();
        // Tick 1: four sent, the fourth is lost (comes back in 2), one on the wire; tick 2: another one there.
        int[] due = {1, 2, 2, 0, 1, 2, 1, 1, 1000, 0};
        for (int what = 0; what <= 9; what++) {
            c.due("many(" + what + ")", x.many(what), due[what]);
        }
        x.mark();
        c.due("many(3)", x.many(3), 1);
        x.tick(1);
        // The lost one came back and halved WINDOW: 200 and 100.
        c.due("EVEN", x.many(8), 300L * 300 * 1000 / (2 * 50000));
        c.due("GAP", x.many(9), 100);
        x.turn(1, false);
        c.due("EVEN of those ON", x.many(8), 1000);
        c.due("GAP of those ON", x.many(9), 0);
        x.turn(0, false);
        c.due("EVEN without", x.many(8), 1000);
        c.due("GAP without", x.many(9), 0);
        c.refused(x, "many(10)", 1, () -> x.many(10));
        c.refused(x, "many(-1)", 1, () -> x.many(-1));
        SharedSurplus y = Nets.of("link 1 1 1;flow 0 greedy;flow 0 greedy;flow 0 greedy;flow 0 greedy;");
        y.tick(60);
        c.due("EVENTS at most 24", y.many(7), 24);
    }

    private static void links() {
        Check c = new Check("7");
        SharedSurplus x = crowded();
        int[] early = {1, 2, 3, 4, 1, 2, 3, 1, 0, 0, 1, 1, 1, 1, 0, 0, 2, 0};
        for (int what = 0; what <= 17; what++) {
            c.due("link(0, " + what + ")", x.link(0, what), early[what]);
        }
        x.tick(2);
        // Came 3 (tick 1), 0 (2), 0 (3: flow 1 has WINDOW 100 and one that flies), 0 (4: two of it still fly).
        // SPARE 1, LOW 0, PHI 40, SHUFFLE 0; PART 200 each; FAIR 4 by 2.
        int[] late = {1, 2, 3, 4, 0, 1, 0, 3, 40, 0, 600, 3, 0, 0, 0, 2, 0, 3};
        for (int what = 0; what <= 17; what++) {
            c.due("link(0, " + what + ") behind its SPAN", x.link(0, what), late[what]);
        }
        c.refused(x, "link(0, 18)", 1, () -> x.link(0, 18));
        c.refused(x, "link(0, -1)", 1, () -> x.link(0, -1));
        c.refused(x, "link(1, 18)", 1, () -> x.link(1, 18));
        c.refused(x, "link(1, 0)", 2, () -> x.link(1, 0));
        c.refused(x, "link(-1, 0)", 2, () -> x.link(-1, 0));
    }

    private static void flows() {
        Check c = new Check("8");
        SharedSurplus x = Nets.of("link 1 2 3 span 4;link 9 3 60;flow 1 0 liar left 40;flow 0 off;");
        int[] first = {2, 40, 2, 1, 5, 200, 0, 10, 0, 0, 0, 0};
        for (int what = 0; what <= 11; what++) {
            c.due("flow(0, " + what + ")", x.flow(0, what), first[what]);
        }
        c.due("off", x.flow(1, 3), 0);
        c.due("BACK", x.flow(1, 4), 2);
        SharedSurplus y = crowded();
        y.tick(1);
        int[] lost = {1, 4, 0, 1, 2, 100, 1, 2, 2, 0, 1, 0};
        for (int what = 0; what <= 11; what++) {
            c.due("flow(1, " + what + ") behind a loss", y.flow(1, what), lost[what]);
        }
        SharedSurplus z = Nets.of("link 9 9 9;link 9 1 60 span 4;flow 1 liar;");
        z.tick(4);
        // Four came, the latest tells 200 and 6: CLAIM 1, one and a half of it and 2 is 3.
        c.due("CAUGHT", z.flow(0, 11), 2);
        c.refused(x, "flow(0, 12)", 1, () -> x.flow(0, 12));
        c.refused(x, "flow(0, -1)", 1, () -> x.flow(0, -1));
        c.refused(x, "flow(2, 12)", 1, () -> x.flow(2, 12));
        c.refused(x, "flow(2, 0)", 2, () -> x.flow(2, 0));
        c.refused(x, "flow(-1, 0)", 2, () -> x.flow(-1, 0));
    }

    private static void paths() {
        Check c = new Check("9");
        SharedSurplus x = Nets.of("link 1 1 1;link 1 1 1;link 1 1 1;link 1 1 1;flow 2 0 3 1;flow 3;");
        int[] path = {2, 0, 3, 1};
        for (int i = 0; i < 4; i++) {
            c.due("path(0, " + i + ")", x.path(0, i), path[i]);
        }
        c.refused(x, "path(0, 4)", 5, () -> x.path(0, 4));
        c.refused(x, "path(1, 1)", 5, () -> x.path(1, 1));
        c.refused(x, "path(0, 2147483647)", 5, () -> x.path(0, Integer.MAX_VALUE));
        c.refused(x, "path(0, -1)", 1, () -> x.path(0, -1));
        c.refused(x, "path(2, -1)", 1, () -> x.path(2, -1));
        c.refused(x, "path(2, 9)", 2, () -> x.path(2, 9));
        c.refused(x, "path(-1, 0)", 2, () -> x.path(-1, 0));
    }

    private static void packets() {
        Check c = new Check("10");
        SharedSurplus x = Nets.of("link 2 1 60;link 1 1 60;flow 0 1 liar;flow 1;");
        x.tick(2);
        // Link 1 let those of flow 1 pass in ticks 1 and 2; the liar's two came there in tick 2, with no share.
        int[] due = {0, 1, 1, 200, 12, 0, 0};
        c.due("ROW", x.link(1, 4), 2);
        for (int what = 0; what <= 6; what++) {
            c.due("packet(1, 0, " + what + ")", x.packet(1, 0, what), due[what]);
            c.due("packet(1, 1, " + what + ")", x.packet(1, 1, what), due[what]);
        }
        c.refused(x, "packet(1, 2, 0)", 5, () -> x.packet(1, 2, 0));
        c.refused(x, "packet(0, 0, 0)", 5, () -> x.packet(0, 0, 0));
        c.refused(x, "packet(1, -1, 0)", 1, () -> x.packet(1, -1, 0));
        c.refused(x, "packet(1, 0, 7)", 1, () -> x.packet(1, 0, 7));
        c.refused(x, "packet(1, 0, -1)", 1, () -> x.packet(1, 0, -1));
        c.refused(x, "packet(2, 0, 7)", 1, () -> x.packet(2, 0, 7));
        c.refused(x, "packet(2, 9, 0)", 2, () -> x.packet(2, 9, 0));
        c.refused(x, "packet(-1, 0, 0)", 2, () -> x.packet(-1, 0, 0));
    }

    private static void negativeShares() {
        Check c = new Check("10");
        SharedSurplus x = Nets.of("link 1 1 60 span 2;flow 0;flow 0;flow 0;");
        x.tick(2);
        // Six came, two could go: SPARE -4, LOW 4 (6 less 1 less 1), PHI -160 - 92, SHUFFLE 0 as 60 is less.
        c.due("PLUS", x.link(0, 8), 0);
        c.due("MINUS", x.link(0, 9), 252);
        c.due("COUNT", x.link(0, 11), 6);
        c.due("the share of the first", x.packet(0, 0, 6), -42);
        c.due("the share of the second, if it had it now", x.packet(0, 1, 6), -42);
        c.due("its FEED as yet", x.packet(0, 1, 5), 1000);
    }

    private static void events() {
        Check c = new Check("11");
        SharedSurplus x = Nets.of("link 1 1 1;flow 0 left 2;");
        x.tick(1);
        // The second one empties LEFT as it is sent, and is lost then.
        due(c, x, 0, 0, 1, 0, 0);
        due(c, x, 1, 3, 1, -1, 0);
        c.due("status() with NONE as an answer", x.status(), 0);
        c.refused(x, "event(2, 0)", 5, () -> x.event(2, 0));
        c.refused(x, "event(23, 0)", 5, () -> x.event(23, 0));
        c.refused(x, "event(24, 0)", 1, () -> x.event(24, 0));
        c.refused(x, "event(-1, 0)", 1, () -> x.event(-1, 0));
        c.refused(x, "event(0, 4)", 1, () -> x.event(0, 4));
        c.refused(x, "event(0, -1)", 1, () -> x.event(0, -1));
        x.tick(4);
        // Tick 2: the lost one is back, and WINDOW 100 holds it till tick 3; it is back, as the last, in tick 5.
        due(c, x, 0, 4, 5, -1, 0);
        due(c, x, 1, 3, 3, -1, 0);
        due(c, x, 2, 0, 1, 0, 0);
        SharedSurplus y = Nets.of("link 1 1 1;flow 0 greedy;flow 0 greedy;flow 0 greedy;flow 0 greedy;");
        y.tick(60);
        c.due("the latest 24", y.event(23, 1) > 0, true);
        c.due("the latest is a late one", y.event(0, 1) > 50, true);
        for (int i = 0; i < 23; i++) {
            c.due("the latest first", y.event(i, 1) >= y.event(i + 1, 1), true);
        }
    }

    private static void due(Check c, SharedSurplus x, int i, int kind, int tick, int link, int flow) {
        c.due("event(" + i + ", 0)", x.event(i, 0), kind);
        c.due("event(" + i + ", 1)", x.event(i, 1), tick);
        c.due("event(" + i + ", 2)", x.event(i, 2), link);
        c.due("event(" + i + ", 3)", x.event(i, 3), flow);
    }

    private static void allKindsOfEvents() {
        Check c = new Check("11");
        SharedSurplus x = Nets.of("link 9 1 60 span 4;flow 0 liar;");
        x.tick(4);
        due(c, x, 0, 1, 4, 0, 0);
        c.due("FAIR", x.link(0, 15), 36);
        c.due("PLUS", x.link(0, 8), 1280);
        c.due("WEIGHT", x.link(0, 10), 1200);
        x.tick(4);
        // Tick 7: WINDOW 200 and 320 twice; six came, CLAIM 840 * 4 / 600 = 5, and 9 are allowed.
        due(c, x, 0, 2, 8, 0, 0);
        c.due("WINDOW", x.flow(0, 5), 840);
        c.due("CAUGHT", x.link(0, 14), 0);
    }

    private static void gifts() {
        Check c = new Check("12");
        SharedSurplus x = Nets.of("link 1 1 60 span 2;flow 0;flow 0;flow 0;");
        x.tick(3);
        // 252 by 6 is 42 for one.
        c.due("given(0, 0)", x.given(0, 0), 0);
        c.due("given(0, 1)", x.given(0, 1), 42);
        SharedSurplus y = Nets.of("link 9 1 60 span 4;flow 0 liar;");
        y.tick(5);
        // Two of PART 300 of 1,200 got of 1,280.
        c.due("given(0, 0)", y.given(0, 0), 640);
        c.due("given(0, 1)", y.given(0, 1), 0);
        c.refused(y, "given(0, 2)", 1, () -> y.given(0, 2));
        c.refused(y, "given(1, -1)", 1, () -> y.given(1, -1));
        c.refused(y, "given(1, 0)", 2, () -> y.given(1, 0));
        c.refused(y, "given(-1, 1)", 2, () -> y.given(-1, 1));
    }

    private static void places() {
        Check c = new Check("13");
        SharedSurplus x = crowded();
        int[][] due = {{0, 2, 0, 0}, {1, 0, 1, 1}};
        for (int f = 0; f < 2; f++) {
            for (int what = 0; what <= 3; what++) {
                c.due("where(" + f + ", " + what + ")", x.where(f, what), due[f][what]);
            }
        }
        x.tick(1);
        c.due("where(0, 2)", x.where(0, 2), 1);
        c.due("where(0, 3)", x.where(0, 3), 0);
        c.refused(x, "where(0, 4)", 1, () -> x.where(0, 4));
        c.refused(x, "where(2, -1)", 1, () -> x.where(2, -1));
        c.refused(x, "where(2, 0)", 2, () -> x.where(2, 0));
        c.refused(x, "where(-1, 0)", 2, () -> x.where(-1, 0));

        c = new Check("14");
        SharedSurplus y = Nets.of("link 1 1 60;flow 0;flow 0 off;");
        c.refused(y, "eldest(0)", 5, () -> y.eldest(0));
        y.tick(2);
        c.due("eldest(0)", y.eldest(0), 1);
        y.tick(1);
        // The first of tick 1 is back in 3, the second in 4.
        c.due("eldest(0)", y.eldest(0), 1);
        y.tick(1);
        c.due("eldest(0)", y.eldest(0), 3);
        c.refused(y, "eldest(1)", 5, () -> y.eldest(1));
        c.refused(y, "eldest(2)", 2, () -> y.eldest(2));
        c.refused(y, "eldest(-1)", 2, () -> y.eldest(-1));
    }

    private static void pasts() {
        Check c = new Check("15");
        SharedSurplus x = crowded();
        c.refused(x, "past(0, 2)", 5, () -> x.past(0, 2));
        x.tick(1);
        c.due("past(1, 0)", x.past(1, 0), 100);
        c.due("past(1, 1)", x.past(1, 1), 200);
        c.due("past(0, 2)", x.past(0, 2), 200);
        c.refused(x, "past(0, 3)", 5, () -> x.past(0, 3));
        c.refused(x, "past(0, 20)", 1, () -> x.past(0, 20));
        c.refused(x, "past(2, -1)", 1, () -> x.past(2, -1));
        c.refused(x, "past(2, 0)", 2, () -> x.past(2, 0));
        c.refused(x, "past(-1, 19)", 2, () -> x.past(-1, 19));
        SharedSurplus y = Nets.of("link 9 1 60 span 4;flow 0 liar;");
        int[] seen = new int[51];
        for (int t = 1; t <= 50; t++) {
            y.tick(1);
            seen[t] = y.flow(0, 5);
        }
        for (int i = 0; i < 20; i++) {
            c.due("past(0, " + i + ")", y.past(0, i), seen[50 - i]);
        }
    }

    private static void tops() {
        Check c = new Check("16");
        SharedSurplus x = crowded();
        c.due("top(0) of several the first", x.top(0), 0);
        c.due("top(1)", x.top(1), 0);
        c.due("top(2)", x.top(2), 0);
        x.tick(1);
        c.due("top(2)", x.top(2), 1);
        c.due("top(0)", x.top(0), 0);
        SharedSurplus y = Nets.of("link 9 1 60 span 4;flow 0 off;flow 0;flow 0;");
        y.tick(30);
        c.due("top(1) of several the first", y.top(1), 1);
        c.due("top(0)", y.top(0), 1);
        c.refused(y, "top(3)", 1, () -> y.top(3));
        c.refused(y, "top(-1)", 1, () -> y.top(-1));
        SharedSurplus z = Nets.of("link 1 1 1;");
        c.refused(z, "top(3)", 1, () -> z.top(3));
        c.refused(z, "top(0)", 5, () -> z.top(0));
    }

    private static void pathsAlike() {
        Check c = new Check("17");
        SharedSurplus x = Nets.of("link 1 1 1;link 1 1 1;link 1 1 1;flow 0 1 2;flow 2 1 0;flow 0 1;flow 0 1 2;flow 0;flow 1 0 2;");
        int[][] due = {{0, 1, 1}, {0, 3, 2}, {0, 2, 0}, {2, 0, 0}, {4, 4, 2}, {4, 2, 0}, {5, 0, 0}, {1, 3, 1}, {0, 4, 0}};
        for (int[] d : due) {
            c.due("alike(" + d[0] + ", " + d[1] + ")", x.alike(d[0], d[1]), d[2]);
        }
        c.refused(x, "alike(0, 6)", 2, () -> x.alike(0, 6));
        c.refused(x, "alike(6, 0)", 2, () -> x.alike(6, 0));
        c.refused(x, "alike(-1, 0)", 2, () -> x.alike(-1, 0));
        c.refused(x, "alike(0, -1)", 2, () -> x.alike(0, -1));
    }
}

/** Section 4: the end of a span and a packet's share; each sentence that names a boundary case. */
public final class EdgeSpanTest {
    /** Whatever is sent in tick 1 comes to link 1 in tick 2, the last of its SPAN, so that LOW is 0 there. */
    private static final String LATE = "link 9 1 60;link %d 1 60 span 2;";

    public static void main(String[] args) {
        spare();
        low();
        shuffleOfPlus();
        shuffleOfMinus();
        plusAndMinus();
        weightAndCount();
        gotAndTook();
        caughtAtTheEdge();
        claimIsCut();
        claimOfTwoAndThree();
        notAnyMore();
        fair();
        newSpan();
        part();
        partedWhole();
        weightAtMost();
        countAtMost();
        feedIsLess();
        Edge.end();
    }

    /** PLUS, MINUS, WEIGHT, COUNT of a link. */
    private static void surplus(Edge e, SharedSurplus x, int link, int... due) {
        for (int i = 0; i < 4; i++) {
            e.due(x, "link(" + link + ", " + (8 + i) + ")", due[i]);
        }
    }

    private static SharedSurplus late(int rate, String flows) {
        return Nets.run(String.format(LATE, rate) + flows, "tick(2)");
    }

    private static void spare() {
        Edge e = new Edge("Section 4", "SPARE: RATE times SPAN less CAME;");
        surplus(e, Nets.run("link 1 1 1 span 2;", "tick(2)"), 0, 80, 0, 1, 1);
        surplus(e, Nets.run("link 9 1 1 span 30;", "tick(30)"), 0, 10800, 0, 1, 1);
        surplus(e, late(1, "flow 0 1 left 1;"), 1, 40, 0, 200, 1);
        surplus(e, late(1, "flow 0 1 left 2;"), 1, 20, 20, 400, 2);
        surplus(e, late(1, "flow 0 1 left 2;flow 0 1 left 1;"), 1, 0, 40, 600, 3);
        // RATE and SPAN as they are when it ends.
        surplus(e, Nets.run("link 1 1 1 span 30;", "tick(3)", "set(0, 0, 3)", "set(0, 2, 4)", "tick(1)"), 0, 480, 0, 1, 1);
    }

    private static void low() {
        Edge e = new Edge("Section 4", "PHI: 40 times SPARE less 23 times LOW;");
        // Six came, LOW 4: -160 less 92.
        SharedSurplus x = Nets.run("link 1 1 60 span 2;flow 0;flow 0;flow 0;", "tick(2)");
        surplus(e, x, 0, 0, 252, 600, 6);
        // Six came to link 1 in tick 2, LOW 0 then; none in ticks 3 and 4, LOW 3: 80 less 69.
        SharedSurplus y = late(1, "flow 0 1;flow 0 1;flow 0 1;");
        surplus(e, y, 1, 0, 160, 1200, 6);
        e.due(y, "tick(2)", 4);
        surplus(e, y, 1, 11, 0, 1, 1);
    }

    private static void shuffleOfPlus() {
        Edge e = new Edge("Section 4", "SHUFFLE: 10 times CAME less PHI (less its opposite, if it is below 0), 0 at least.");
        // PHI 40: of three nothing, of four just nothing, of five 10.
        surplus(e, late(2, "flow 0 1 left 2;flow 0 1 left 1;"), 1, 40, 0, 600, 3);
        surplus(e, Nets.run("link 1 1 60 span 5;flow 0 left 2;flow 0 left 2;", "tick(5)"), 0, 40, 0, 400, 4);
        surplus(e, Nets.run("link 2 1 60 span 3;flow 0 left 2;flow 0 left 2;flow 0 left 1;", "tick(3)"), 0, 50, 10, 500, 5);
        // PHI 0: all of it.
        surplus(e, late(2, "flow 0 1 left 2;flow 0 1 left 2;"), 1, 40, 40, 800, 4);
    }

    private static void shuffleOfMinus() {
        Edge e = new Edge("Section 4", "(less its opposite, if it is below 0), 0 at least");
        // PHI -40: of three nothing, of four (in tick 3, of a SPAN of 3) just nothing, of five 10.
        surplus(e, late(1, "flow 0 1 left 2;flow 0 1 left 1;"), 1, 0, 40, 600, 3);
        surplus(e, Nets.run("link 9 2 60;link 1 1 60 span 3;flow 0 1 left 2;flow 0 1 left 2;", "tick(3)"), 1, 0, 40, 1200, 4);
        surplus(e, late(2, "flow 0 1 left 2;flow 0 1 left 2;flow 0 1 left 1;"), 1, 10, 50, 1000, 5);
    }

    private static void plusAndMinus() {
        Edge e = new Edge("Section 4", "PLUS: SHUFFLE, and PHI if it is above 0; MINUS: SHUFFLE, less PHI if it is below 0.");
        // Seven of eight: PHI 40, SHUFFLE 30; nine of eight: PHI -40, SHUFFLE 50; eight of eight: SHUFFLE 80.
        String four = "flow 0 1 left 2;flow 0 1 left 2;flow 0 1 left 2;";
        surplus(e, late(4, four + "flow 0 1 left 1;"), 1, 70, 30, 1400, 7);
        surplus(e, late(4, four + "flow 0 1 left 2;"), 1, 80, 80, 1600, 8);
        surplus(e, late(4, four + "flow 0 1 left 2;flow 0 1 left 1;"), 1, 50, 90, 1800, 9);
    }

    private static void weightAndCount() {
        Edge e = new Edge("Section 4", "WEIGHT: PARTS of all that came in that SPAN, together, COUNT: CAME, each 1 at least.");
        SharedSurplus none = Nets.run("link 2 1 60 span 2;flow 0 off;", "tick(2)");
        e.due(none, "link(0, 10)", 1);
        e.due(none, "link(0, 11)", 1);
        // An honest one's two of PART 100, a liar's two of 300; what is lost has no PART.
        SharedSurplus some = Nets.run("link 1 1 4 span 2;flow 0;flow 0 liar;flow 0;", "tick(1)");
        e.due(some, "where(2, 3)", 2);
        e.due(some, "turn(2, false)", 1);
        e.due(some, "tick(1)", 2);
        e.due(some, "link(0, 10)", 800);
        e.due(some, "link(0, 11)", 4);
        SharedSurplus one = Nets.run("link 9 1 60 span 2;flow 0 left 1;", "tick(2)");
        e.due(one, "link(0, 10)", 100);
        e.due(one, "link(0, 11)", 1);
    }

    private static void gotAndTook() {
        Edge e = new Edge("Section 4", "GOT, TOOK are 0.");
        SharedSurplus x = Nets.run("link 1 1 60 span 4;flow 0;", "tick(3)");
        e.due(x, "link(0, 12)", 1);
        e.due(x, "link(0, 13)", 1);
        e.due(x, "tick(1)", 4);
        e.due(x, "link(0, 12)", 0);
        e.due(x, "link(0, 13)", 0);
    }

    private static void caughtAtTheEdge() {
        Edge e = new Edge("Section 4", "A FLOW is CAUGHT from then on, if more of it came than one and a half times its CLAIM");
        // TURN 10, SPAN 4: CLAIM 0, two are fine. TURN 8: CLAIM 1, three are fine. Four come in ticks 1 and 2 at most.
        int[][] cases = {{5, 2, 0}, {5, 3, 1}, {4, 3, 0}, {4, 4, 1}, {2, 4, 0}};
        for (int[] c : cases) {
            SharedSurplus x = Nets.run("link 9 " + c[0] + " 60 span 4;flow 0 off;flow 0 greedy left " + c[1] + ";", "tick(3)");
            e.due(x, "link(0, 14)", 0);
            e.due(x, "tick(1)", 4);
            e.due(x, "link(0, 14)", 2 * c[2]);
            e.due(x, "flow(1, 11)", c[2]);
            e.due(x, "flow(0, 11)", 0);
        }
    }

    private static void claimIsCut() {
        Edge e = new Edge("Section 4", "(the WINDOW times SPAN by (100 times TURN), cut, as its latest told), cut, and 2; else not any more.");
        // TURN 6, SPAN 4: 800 by 600 is cut to 1 ahead of one and a half times, and that is cut again: three are fine.
        for (int left = 3; left <= 4; left++) {
            SharedSurplus x = Nets.run("link 9 3 60 span 4;flow 0 greedy left " + left + ";", "tick(4)");
            e.due(x, "link(0, 14)", left - 3);
        }
        // The same with TURN 8 and SPAN 4, where nothing is cut of CLAIM 1: one and a half of it is 1.
        for (int left = 3; left <= 4; left++) {
            SharedSurplus x = Nets.run("link 9 4 60 span 4;flow 0 greedy left " + left + ";", "tick(4)");
            e.due(x, "link(0, 14)", left - 3);
        }
    }

    private static void claimOfTwoAndThree() {
        Edge e = new Edge("Section 4", "one and a half times its CLAIM (the WINDOW times SPAN by (100 times TURN), cut, as its latest told), cut, and 2");
        // Two each in ticks 1, 2 and a TURN later. TURN 8, SPAN 10: CLAIM 2, five are fine. TURN 6: CLAIM 3, six are fine.
        int[][] cases = {{4, 5, 0}, {4, 6, 1}, {3, 6, 0}, {3, 7, 1}};
        for (int[] c : cases) {
            SharedSurplus x = Nets.run("link 9 " + c[0] + " 60;flow 0 greedy left " + c[1] + ";", "tick(9)");
            e.due(x, "link(0, 6)", Math.min(c[1], c[0] == 4 ? 6 : 8));
            e.due(x, "tick(1)", 10);
            e.due(x, "link(0, 14)", c[2]);
        }
        // TURN 2, SPAN 4: of 200 CLAIM 4, and the eight that came are fine; of 199, 796 by 200, CLAIM 3, and seven are one too many.
        SharedSurplus near = Nets.run("link 3 1 9 span 4;flow 0 greedy;flow 0;", "tick(4)");
        e.due(near, "flow(0, 8)", 8);
        e.due(near, "link(0, 14)", 0);
        e.due(near, "tick(4)", 8);
        e.due(near, "flow(0, 8)", 15);
        e.due(near, "flow(0, 5)", 199);
        e.due(near, "link(0, 14)", 1);
        // The least TURN that can be told, 1, of one sent behind a loss: CLAIM 20 of WINDOW 503; three came.
        SharedSurplus least = Nets.run("link 9 1 1 span 4;flow 0;", "tick(8)");
        e.due(least, "flow(0, 7)", 1);
        e.due(least, "flow(0, 5)", 503);
        e.due(least, "link(0, 11)", 3);
        e.due(least, "link(0, 14)", 0);
    }

    private static void notAnyMore() {
        Edge e = new Edge("Section 4", "else not any more.");
        SharedSurplus x = Nets.run("link 9 5 60 span 4;flow 0 greedy left 4;", "tick(4)");
        e.due(x, "link(0, 14)", 1);
        e.due(x, "tick(3)", 7);
        e.due(x, "link(0, 14)", 1);
        e.due(x, "tick(1)", 8);
        e.due(x, "link(0, 14)", 0);
    }

    private static void fair() {
        Edge e = new Edge("Section 4", "FAIR: RATE times SPAN by how many FLOWS came (by 1, if none did), cut, 1 at least.");
        e.due(Nets.run("link 3 1 60 span 5;flow 0 off;", "tick(5)"), "link(0, 15)", 15);
        e.due(Nets.run("link 3 1 60 span 5;flow 0;", "tick(5)"), "link(0, 15)", 15);
        e.due(Nets.run("link 3 1 60 span 5;flow 0;flow 0;", "tick(5)"), "link(0, 15)", 7);
        e.due(Nets.run("link 1 1 60 span 2;flow 0;flow 0;", "tick(2)"), "link(0, 15)", 1);
        e.due(Nets.run("link 1 1 60 span 2;flow 0;flow 0;flow 0;", "tick(2)"), "link(0, 15)", 1);
        e.due(Nets.run("link 9 1 60 span 30;" + "flow 0;".repeat(6), "tick(30)"), "link(0, 15)", 45);
        // One of which all was lost did not come.
        SharedSurplus x = Nets.run("link 1 1 2 span 4;flow 0;flow 0;", "tick(1)", "turn(1, false)", "tick(3)");
        e.due(x, "flow(1, 10)", 2);
        e.due(x, "link(0, 15)", 4);
    }

    private static void newSpan() {
        Edge e = new Edge("Section 4", "Then CAME is 0, LOW ROOM, nothing came of any FLOW.");
        SharedSurplus x = Nets.run("link 9 4 20 span 4;flow 0 greedy left 2;", "tick(3)");
        e.due(x, "link(0, 6)", 2);
        e.due(x, "link(0, 7)", 0);
        e.due(x, "tick(1)", 4);
        e.due(x, "link(0, 6)", 0);
        e.due(x, "link(0, 7)", 20);
        // Two more in the next SPAN: four in all, but three in one would be fine.
        e.due(x, "more(0, 2)", 2);
        e.due(x, "tick(4)", 8);
        e.due(x, "flow(0, 8)", 4);
        e.due(x, "link(0, 14)", 0);
        e.due(x, "link(0, 15)", 36);
        e.due(x, "tick(4)", 12);
        e.due(x, "link(0, 10)", 1);
    }

    private static void part() {
        Edge e = new Edge("Section 4", "PART of a packet: 10,000 times the TURN it tells by the WINDOW it tells, cut, 1 at least.");
        // WINDOW 240 and TURN 4 in tick 9: 166 each.
        SharedSurplus x = Nets.run("link 1 2 5 span 4;flow 0 left 3;", "tick(9)", "more(0, 2)", "tick(3)");
        e.due(x, "link(0, 10)", 332);
        // TURN 216, which a liar tells, by 200.
        SharedSurplus liar = Nets.run("link 9 9 60;".repeat(4) + "flow 0 1 2 3 liar left 1;", "tick(10)");
        e.due(liar, "link(0, 10)", 10800);
        // What it tells, not what its FLOW has by now: 3 by 200 of the one that goes in tick 7.
        SharedSurplus told = Nets.run("link 1 1 4 span 3;flow 0 greedy;", "tick(7)");
        e.due(told, "flow(0, 7)", 4);
        e.due(told, "flow(0, 5)", 159);
        e.due(told, "link(0, 12)", 150);
        e.due(told, "tick(2)", 9);
        e.due(told, "flow(0, 5)", 148);
        // WINDOW 4,000 and TURN 2: 5 each; four came.
        SharedSurplus y = Nets.run("link 9 1 60 span 2;flow 0;", "tick(60)");
        e.due(y, "flow(0, 5)", 4000);
        e.due(y, "link(0, 10)", 20);
    }

    private static void partedWhole() {
        Edge e = new Edge("Section 4", "the share is by how much GOT times PLUS by WEIGHT, cut, became more, less by how much TOOK times MINUS by COUNT, cut, became more.");
        SharedSurplus x = Nets.parted();
        surplus(e, x, 0, 40, 0, 300, 3);
        int[] given = {13, 33, 40};
        int[] got = {100, 250, 300};
        for (int n = 0; n < 3; n++) {
            e.due(x, "tick(1)", 5 + n);
            e.due(x, "given(0, 0)", given[n]);
            e.due(x, "link(0, 12)", got[n]);
            e.due(x, "link(0, 13)", n + 1);
        }
        e.due(x, "tick(2)", 9);
        int[] windows = {213, 220, 207};
        for (int f = 0; f < 3; f++) {
            e.due(x, "flow(" + f + ", 5)", windows[f]);
        }
        // MINUS 630 of twelve: 52 for the first, 53 for the second.
        SharedSurplus y = Nets.run("link 1 1 60 span 2;" + "flow 0;".repeat(6), "tick(2)");
        surplus(e, y, 0, 0, 630, 1200, 12);
        e.due(y, "packet(0, 0, 6)", -52);
        e.due(y, "tick(1)", 3);
        e.due(y, "given(0, 1)", 52);
        e.due(y, "packet(0, 0, 6)", -53);
        // PLUS and MINUS 40: two of PART 100 of 800 have 5 less 10 each.
        SharedSurplus z = Nets.run("link 2 1 60 span 2;flow 0;flow 0 liar;", "tick(3)");
        e.due(z, "given(0, 0)", 10);
        e.due(z, "given(0, 1)", 20);
        e.due(z, "tick(2)", 5);
        e.due(z, "flow(0, 5)", 190);
    }

    private static void weightAtMost() {
        Edge e = new Edge("Section 4", "Its share: GOT becomes GOT and its PART, WEIGHT at most;");
        SharedSurplus x = Nets.parted("tick(2)");
        e.due(x, "packet(0, 0, 6)", 7);
        e.due(x, "tick(1)", 7);
        e.due(x, "link(0, 12)", 300);
        // A fourth one, in tick 8, gets nothing: it is back in tick 10.
        e.due(x, "more(0, 1)", 1);
        e.due(x, "tick(3)", 10);
        e.due(x, "flow(0, 9)", 3);
        e.due(x, "flow(0, 5)", 213);
        // WEIGHT 1: the first one gets all.
        SharedSurplus y = Nets.run("link 1 1 60 span 2;flow 0 off;", "tick(2)", "turn(0, true)", "tick(1)");
        e.due(y, "given(0, 0)", 80);
        e.due(y, "link(0, 12)", 1);
        e.due(y, "packet(0, 0, 6)", 0);
    }

    private static void countAtMost() {
        Edge e = new Edge("Section 4", "TOOK 1 more, COUNT at most;");
        // One came in ticks 5 and 6: MINUS 29, COUNT 1. Two of flow 0 go in ticks 7 and 8: 29 less, and nothing.
        SharedSurplus x = Nets.run("link 1 1 60 span 2;flow 0;flow 0;flow 0;", "tick(6)");
        surplus(e, x, 0, 0, 29, 431, 1);
        e.due(x, "packet(0, 0, 6)", -29);
        e.due(x, "tick(1)", 7);
        e.due(x, "link(0, 13)", 1);
        e.due(x, "packet(0, 0, 6)", 0);
        e.due(x, "tick(2)", 9);
        e.due(x, "flow(0, 5)", 171);
        e.due(x, "tick(1)", 10);
        e.due(x, "flow(0, 9)", 4);
        e.due(x, "flow(0, 5)", 171);
    }

    private static void feedIsLess() {
        Edge e = new Edge("Section 4", "FEED is the share, if that is less.");
        // The one sent in tick 5 gets 80 of link 1 and 680 of link 0, whichever comes first.
        for (String path : new String[] {"0 1", "1 0"}) {
            SharedSurplus x = Nets.run("link 9 1 60 span 4;link 1 1 60 span 2;flow " + path + ";", "tick(6)");
            e.due(x, "flow(0, 5)", 200);
            e.due(x, "tick(3)", 9);
            e.due(x, "flow(0, 9)", 3);
            e.due(x, "flow(0, 5)", 280);
        }
        // In the ROW of the second link: what the first one gave.
        SharedSurplus y = Nets.run("link 2 1 60;link 1 1 60;flow 0 1;flow 1;", "tick(2)");
        e.due(y, "packet(1, 0, 5)", 0);
        // Ten came to link 0, LOW 8: MINUS 504. Flow 1's first goes there in tick 3, and stands between two of flow 5 in 4.
        SharedSurplus z = Nets.run("link 1 1 60 span 2;link 1 1 60;" + "flow 0 1;".repeat(5) + "flow 1;", "tick(4)");
        e.due(z, "packet(1, 1, 0)", 1);
        e.due(z, "packet(1, 1, 5)", -50);
        e.due(z, "packet(1, 0, 5)", 1000);
    }
}

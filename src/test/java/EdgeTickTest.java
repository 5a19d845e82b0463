/** Sections 2 and 3: flows, packets and links as they begin, and a tick; each sentence that names a boundary case. */
public final class EdgeTickTest {
    private static final int NONE = SharedSurplus.NONE;

    public static void main(String[] args) {
        flowAtFirst();
        flying();
        turnAtFirst();
        packetTells();
        packetTellsThen();
        liarTells();
        feedAtFirst();
        linkAtFirst();
        lowAtFirst();
        cameIsLetIn();
        latestTold();
        latestLetInTold();
        numberedFromOne();
        asSentBack();
        asSentBackOverTicks();
        turnOfOneThatIsBack();
        leftAtMost();
        halfOfIt();
        deaf();
        heldAtLeast();
        heldAtMost();
        wireInOrder();
        behindTheLast();
        windowFull();
        greedyWindow();
        allThatCanFly();
        twoInATick();
        lastOnesLeft();
        offSendsNothing();
        sendingOne();
        standsLast();
        fairOfOneThatIsCaught();
        caughtThere();
        rowIsRoom();
        lostComesBack();
        rateOfRow();
        lagOfWire();
        spanDivides();
        inOneTick();
        Edge.end();
    }

    private static void flowAtFirst() {
        Edge e = new Edge("Section 2", "WINDOW (hundredths, 100 to 4,000; 200 at first)");
        SharedSurplus x = Nets.of("link 1 1 1;flow 0;flow 0 greedy off left 0;");
        e.due(x, "flow(0, 5)", 200);
        e.due(x, "flow(1, 5)", 200);
        e = new Edge("Section 2", "SENT, DONE, LOST (0).");
        for (int what = 8; what <= 10; what++) {
            e.due(x, "flow(0, " + what + ")", 0);
            e.due(x, "flow(1, " + what + ")", 0);
        }
    }

    private static void flying() {
        Edge e = new Edge("Section 2", "FLYING (packets that are under way, or come back; 0)");
        SharedSurplus x = Nets.lived();
        int all = 0;
        for (int f = 0; f < 5; f++) {
            e.due(x, "flow(" + f + ", 6)", x.where(f, 0) + x.where(f, 1) + x.where(f, 2));
            all += x.flow(f, 6);
        }
        e.due("some fly", all > 0);
        e.due(Nets.of("link 1 1 1;flow 0;"), "flow(0, 6)", 0);
        // Sent in tick 1, off the wire in 3, back in 5.
        SharedSurplus y = Nets.run("link 1 2 9;flow 0 left 1;", "tick(4)");
        e.due(y, "flow(0, 6)", 1);
        e.due(y, "tick(1)", 5);
        e.due(y, "flow(0, 6)", 0);
    }

    private static void turnAtFirst() {
        Edge e = new Edge("Section 2", "TURN (twice BACK at first)");
        e.due(Nets.of("link 1 1 1;flow 0;"), "flow(0, 7)", 2);
        e.due(Nets.of("link 1 9 1;".repeat(4) + "flow 0 1 2 3;"), "flow(0, 7)", 72);
        e.due(Nets.of("link 1 3 1;flow 0 liar;"), "flow(0, 7)", 6);
    }

    private static void packetTells() {
        Edge e = new Edge("Section 2", "A packet: its FLOW, when it was sent, how many LINKS of its PATH it left");
        // All but the last of the four links let all pass at once: in tick 4 four come to it, and one goes.
        SharedSurplus x = Nets.run("link 9 1 60;".repeat(3) + "link 1 1 60;flow 0 1 2 3;flow 0 1 2 3;", "tick(4)");
        e.due(x, "link(3, 4)", 3);
        e.dueEach(x, "packet(3, 0, ", 0, 1, 3, 200, 8);
        e.dueEach(x, "packet(3, 2, ", 1, 1, 3, 200, 8);
        SharedSurplus y = Nets.run("link 1 1 60;flow 0;", "tick(1)");
        e.dueEach(y, "packet(0, 0, ", 0, 1, 0, 200, 2);
    }

    private static void packetTellsThen() {
        Edge e = new Edge("Section 2", "the WINDOW and TURN that it tells (those of its FLOW then;");
        // Flow 1's packets wait behind those of flow 0: back in ticks 5 and 6, with TURN 4 and 5.
        SharedSurplus x = Nets.run("link 1 1 60 span 30;flow 0;flow 0;", "tick(6)");
        e.due(x, "flow(1, 7)", 5);
        e.due(x, "packet(0, 0, 0)", 1);
        e.due(x, "packet(0, 0, 1)", 5);
        e.due(x, "packet(0, 0, 4)", 4);
        e.due(x, "packet(0, 1, 4)", 5);
        // One is lost in tick 1 and halves WINDOW in 2; those that stand tell 200 as ever.
        SharedSurplus y = Nets.run("link 1 1 3;flow 0;flow 0;", "tick(2)");
        e.due(y, "flow(1, 5)", 100);
        e.due(y, "packet(0, 0, 0)", 1);
        e.due(y, "packet(0, 0, 3)", 200);
    }

    private static void liarTells() {
        Edge e = new Edge("Section 2", "of a liar TURN three times)");
        SharedSurplus x = Nets.run("link 1 2 60;flow 0;flow 0 liar;flow 0 greedy;flow 0 deaf;", "tick(1)", "kind(1, 0)", "kind(2, 2)");
        e.due(x, "link(0, 4)", 7);
        int[] told = {4, 12, 12, 4, 4, 4, 4};
        for (int i = 0; i < 7; i++) {
            e.due(x, "packet(0, " + i + ", 4)", told[i]);
        }
        e.due(x, "flow(1, 7)", 4);
    }

    private static void feedAtFirst() {
        Edge e = new Edge("Section 2", "FEED (hundredths; 1,000 at first).");
        SharedSurplus x = Nets.run("link 1 1 60;flow 0;", "tick(1)");
        e.due(x, "packet(0, 0, 5)", 1000);
        // One of 36 came in the first SPAN: PLUS 1,400, all of it for one packet of the next; it feeds 1,000.
        SharedSurplus y = Nets.run("link 9 1 60 span 4;flow 0 left 1;", "tick(4)", "more(0, 1)", "tick(1)");
        e.due(y, "given(0, 0)", 1400);
        e.due(y, "tick(2)", 7);
        e.due(y, "flow(0, 5)", 1200);
    }

    private static void linkAtFirst() {
        Edge e = new Edge("Section 2", "PLUS, MINUS (hundredths), WEIGHT, COUNT: 0, 0, 1, 1 at first; GOT, TOOK: 0. CAUGHT: FLOWS, none at first; FAIR 0.");
        SharedSurplus x = Nets.of("link 3 2 7 span 5;flow 0;");
        e.dueEach(x, "link(0, ", 3, 2, 7, 5, 0, 0, 0, 7, 0, 0, 1, 1, 0, 0, 0, 0, 0, 0);
        // GOT is WEIGHT at most and TOOK COUNT at most from the first on: the first packets get nothing.
        e.due(x, "tick(1)", 1);
        e.due(x, "link(0, 12)", 1);
        e.due(x, "link(0, 13)", 1);
        e.due(x, "given(0, 0)", 0);
        e.due(x, "given(0, 1)", 0);
    }

    private static void lowAtFirst() {
        Edge e = new Edge("Section 2", "LOW (the least ROW at the end of a TICK since then; ROOM at first)");
        e.due(Nets.of("link 1 1 1;"), "link(0, 7)", 1);
        e.due(Nets.of("link 1 1 60;"), "link(0, 7)", 60);
        // Six come and one goes a tick: the ROW is 5, 4, 4 (one is back and another sent) at the ends of ticks.
        SharedSurplus x = Nets.run("link 1 1 60 span 30;flow 0;flow 0;flow 0;", "tick(1)");
        e.due(x, "link(0, 7)", 5);
        e.due(x, "tick(1)", 2);
        e.due(x, "link(0, 7)", 4);
        e.due(x, "tick(1)", 3);
        e.due(x, "link(0, 7)", 4);
        // It never grows again ahead of the end of the SPAN.
        SharedSurplus y = Nets.run("link 1 1 60 span 30;flow 0 left 1;flow 0 off;flow 0 off;", "tick(2)", "turn(1, true)", "turn(2, true)", "tick(1)");
        e.due(y, "link(0, 4)", 3);
        e.due(y, "link(0, 7)", 0);
        // Another ROOM is none of LOW's business till the SPAN ends.
        SharedSurplus z = Nets.run("link 1 1 60 span 2;", "set(0, 1, 9)");
        e.due(z, "link(0, 7)", 60);
        e.due(z, "tick(2)", 2);
        e.due(z, "link(0, 7)", 9);
    }

    private static void cameIsLetIn() {
        Edge e = new Edge("Section 2", "CAME (how many came, and were let in, since its SPAN began)");
        SharedSurplus x = Nets.run("link 1 1 1;flow 0;flow 0;", "tick(1)");
        e.due(x, "link(0, 6)", 1);
        e.due(x, "where(0, 3)", 1);
        e.due(x, "where(1, 3)", 2);
        SharedSurplus y = Nets.run("link 1 1 60 span 2;flow 0;flow 0;", "tick(1)");
        e.due(y, "link(0, 6)", 4);
        e.due(y, "tick(1)", 2);
        e.due(y, "link(0, 6)", 0);
    }

    private static void latestTold() {
        Edge e = new Edge("Section 2", "of each FLOW how many came so, and the WINDOW and TURN that its latest told.");
        // Ticks 5 to 8: six came, the first told 200 and 6 (CLAIM 1, 3 are fine), the latest 840 and 6 (CLAIM 5, 9 are fine).
        SharedSurplus x = Nets.run("link 9 1 60 span 4;flow 0 liar;", "tick(4)");
        e.due(x, "link(0, 14)", 1);
        e.due(x, "tick(4)", 8);
        e.due(x, "flow(0, 5)", 840);
        e.due(x, "link(0, 14)", 0);
    }

    private static void latestLetInTold() {
        Edge e = new Edge("Section 2", "how many came so, and the WINDOW and TURN that its latest told");
        // Flow 1: four came with TURN 4 (CLAIM 5). In tick 9 flow 0 fills the ROW, and the two of flow 1, a liar now, are
        // lost: they told 12 (CLAIM 1, 3 would be fine).
        SharedSurplus x = Nets.run("link 9 2 60;flow 0 off;flow 0;", "tick(8)", "set(0, 1, 1)", "turn(0, true)", "kind(1, 2)", "tick(1)");
        e.due(x, "link(0, 6)", 5);
        e.due(x, "where(1, 3)", 2);
        e.due(x, "tick(1)", 10);
        e.due(x, "link(0, 14)", 0);
    }

    private static void numberedFromOne() {
        Edge e = new Edge("Section 3", "A TICK, numbered from 1 on:");
        SharedSurplus x = Nets.of("link 1 1 1;flow 0;");
        e.due(x, "many(2)", 0);
        e.due(x, "tick(1)", 1);
        e.due(x, "event(0, 1)", 1);
        e.due(x, "eldest(0)", 1);
    }

    private static void asSentBack() {
        Edge e = new Edge("Section 3", "(1) What comes back in this TICK, as it was sent back:");
        // Off the wires of link 0 and then of link 1, in tick 2: flow 1 is the first to come back.
        SharedSurplus x = Nets.run("link 1 1 9;link 1 1 9;flow 1 left 1;flow 0 left 1;", "tick(3)");
        e.dueEach(x, "event(0, ", 4, 3, NONE, 0);
        e.dueEach(x, "event(1, ", 4, 3, NONE, 1);
    }

    private static void asSentBackOverTicks() {
        Edge e = new Edge("Section 3", "as it was sent back");
        // Flow 1's is sent back in tick 3 for 2 ticks, flow 0's last in tick 4 for one.
        SharedSurplus x = Nets.run("link 1 1 9;link 1 2 9;flow 0 left 3;flow 1 left 1;", "tick(5)");
        e.dueEach(x, "event(0, ", 4, 5, NONE, 0);
        e.dueEach(x, "event(1, ", 4, 5, NONE, 1);
    }

    private static void turnOfOneThatIsBack() {
        Edge e = new Edge("Section 3", "FLYING 1 less, TURN is this TICK less that in which it was sent.");
        SharedSurplus x = Nets.run("link 1 1 9;flow 0 left 2;", "tick(3)");
        e.due(x, "flow(0, 6)", 1);
        e.due(x, "flow(0, 7)", 2);
        e.due(x, "tick(1)", 4);
        e.due(x, "flow(0, 6)", 0);
        e.due(x, "flow(0, 7)", 3);
        // Of one that was lost, too: the least TURN that can be.
        SharedSurplus y = Nets.run("link 1 1 1;flow 0;", "tick(2)");
        e.due(y, "flow(0, 10)", 1);
        e.due(y, "flow(0, 7)", 1);
    }

    private static void leftAtMost() {
        Edge e = new Edge("Section 3", "One that was lost: LOST 1 more, LEFT 1 more (9,999 at most)");
        int[] more = {1, 2};
        for (int n : more) {
            // Two are sent in tick 1, of which one is lost, and back in tick 10.
            SharedSurplus x = Nets.run("link 1 9 1;flow 0;", "tick(1)", "more(0, " + n + ")", "tick(8)");
            e.due(x, "flow(0, 1)", 9997 + n);
            e.due(x, "flow(0, 10)", 0);
            e.due(x, "tick(1)", 10);
            e.due(x, "flow(0, 1)", 9999);
            e.due(x, "flow(0, 10)", 1);
        }
        SharedSurplus y = Nets.run("link 1 9 1;flow 0 left 2;", "tick(9)");
        e.due(y, "flow(0, 1)", 0);
        e.due(y, "tick(1)", 10);
        e.due(y, "flow(0, 1)", 1);
    }

    private static void halfOfIt() {
        Edge e = new Edge("Section 3", "WINDOW half of it.");
        // WINDOW 213 in tick 7. One of two is lost in tick 8, and back in 9.
        SharedSurplus x = Nets.parted("tick(3)", "more(0, 2)", "set(0, 1, 1)");
        e.due(x, "flow(0, 5)", 213);
        e.due(x, "tick(1)", 8);
        e.due(x, "where(0, 3)", 1);
        e.due(x, "tick(1)", 9);
        e.due(x, "flow(0, 5)", 106);
    }

    private static void deaf() {
        Edge e = new Edge("Section 3", "Else DONE 1 more, WINDOW more by FEED (of a deaf FLOW: only if that is above 0).");
        // Twelve came, two could go, LOW 10: MINUS 630, 52 and 53 less for flow 1 in ticks 5 and 6.
        String text = "link 1 1 60 span 2;flow 0;flow 0 %s;flow 0;flow 0;flow 0;flow 0;";
        SharedSurplus deaf = Nets.run(String.format(text, "deaf"), "tick(5)");
        SharedSurplus honest = Nets.run(String.format(text, ""), "tick(5)");
        e.due(deaf, "flow(1, 9)", 1);
        e.due(deaf, "flow(1, 5)", 200);
        e.due(honest, "flow(1, 9)", 1);
        e.due(honest, "flow(1, 5)", 148);
        // FEED 0 is for neither, and FEED above 0 for both.
        for (String kind : new String[] {"", "deaf"}) {
            SharedSurplus x = Nets.run("link 7 1 9 span 2;flow 0 left 3 " + kind + ";flow 0 left 2;", "tick(3)");
            e.due(x, "flow(0, 9)", 2);
            e.due(x, "flow(0, 5)", 200);
            e.due(x, "tick(2)", 5);
            e.due(x, "flow(0, 9)", 3);
            e.due(x, "flow(0, 5)", 300);
        }
        // Deaf ones hear of losses.
        SharedSurplus lost = Nets.run("link 1 1 1;flow 0 deaf;", "tick(2)");
        e.due(lost, "flow(0, 5)", 100);
    }

    private static void heldAtLeast() {
        Edge e = new Edge("Section 3", "WINDOW is held to 100 to 4,000.");
        // 200 less 52 is 148, less 53 is 95.
        SharedSurplus x = Nets.run("link 1 1 60 span 2;flow 0;flow 0;flow 0;flow 0;flow 0;flow 0;", "tick(5)");
        e.due(x, "flow(1, 5)", 148);
        e.due(x, "tick(1)", 6);
        e.due(x, "flow(1, 5)", 100);
        e.due(x, "flow(1, 10)", 0);
        // Held as each comes back, not as all have: in tick 14 half of 181 is held to 100 ahead of a FEED of 47.
        SharedSurplus z = Nets.run("link 3 1 2 span 4;link 3 1 1 span 3;flow 0 1 greedy;", "tick(13)");
        e.due(z, "flow(0, 5)", 181);
        e.due(z, "flow(0, 9)", 5);
        e.due(z, "flow(0, 10)", 4);
        e.due(z, "tick(1)", 14);
        e.due(z, "flow(0, 9)", 6);
        e.due(z, "flow(0, 10)", 5);
        e.due(z, "flow(0, 5)", 147);
        // Half of 200 is 100, half of that is below.
        SharedSurplus y = Nets.run("link 1 1 1;flow 0;flow 0;", "tick(2)");
        e.due(y, "flow(1, 10)", 2);
        e.due(y, "flow(1, 5)", 100);
    }

    private static void heldAtMost() {
        Edge e = new Edge("Section 3", "WINDOW is held to 100 to 4,000");
        SharedSurplus x = Nets.of("link 9 1 60 span 2;flow 0;");
        int before = 0;
        int last = 200;
        for (int n = 0; n < 60; n++) {
            x.tick(1);
            before = last < 4000 ? last : before;
            last = x.flow(0, 5);
            e.due("WINDOW in tick " + (n + 1) + " is at most 4,000", last <= 4000);
        }
        e.due(x, "flow(0, 5)", 4000);
        e.due("it came near by small steps", before > 3500 && before < 4000);
    }

    private static void wireInOrder() {
        Edge e = new Edge("Section 3", "(2) Each LINK by numbers: those on its wire whose TICK it is, as they left, COME to the next LINK of their PATH;");
        // Links 1 and 0, in this order of their flows' numbers, hand four packets to link 2 in tick 2: link 0's come first.
        SharedSurplus x = Nets.run("link 9 1 60;link 9 1 60;link 1 1 60;flow 1 2;flow 0 2;", "tick(2)");
        int[] flows = {1, 0, 0};
        for (int i = 0; i < 3; i++) {
            e.due(x, "packet(2, " + i + ", 0)", flows[i]);
        }
        // As they left: flow 1's stood behind flow 0's.
        SharedSurplus y = Nets.run("link 9 1 60;link 1 1 60;flow 0 1 left 1;flow 0 1 left 2;", "tick(2)");
        e.due(y, "packet(1, 0, 0)", 1);
        e.due(y, "packet(1, 1, 0)", 1);
        // Who comes off a wire comes ahead of who is sent in the same TICK.
        SharedSurplus z = Nets.run("link 9 1 60;link 1 1 60;flow 1 off;flow 0 1;", "tick(1)", "turn(0, true)", "tick(1)");
        e.due(z, "packet(1, 0, 0)", 1);
        e.due(z, "packet(1, 1, 0)", 0);
    }

    private static void behindTheLast() {
        Edge e = new Edge("Section 3", "behind the last one they come back in BACK TICKS.");
        // Off link 0 in tick 3, off link 1 in 8, back 7 ticks later.
        SharedSurplus x = Nets.run("link 1 2 60;link 1 5 60;flow 0 1 left 1;", "tick(7)");
        e.due(x, "where(0, 1)", 1);
        e.due(x, "tick(1)", 8);
        e.due(x, "where(0, 2)", 1);
        e.due(x, "tick(6)", 14);
        e.due(x, "flow(0, 9)", 0);
        e.due(x, "tick(1)", 15);
        e.due(x, "flow(0, 9)", 1);
        SharedSurplus y = Nets.run("link 1 1 60;flow 0 left 1;", "tick(2)");
        e.due(y, "flow(0, 9)", 0);
        e.due(y, "tick(1)", 3);
        e.due(y, "flow(0, 9)", 1);
    }

    private static void windowFull() {
        Edge e = new Edge("Section 3", "and FLYING and 1, times 100, is not above WINDOW");
        SharedSurplus x = Nets.run("link 9 9 60;flow 0;", "tick(9)");
        e.due(x, "flow(0, 6)", 2);
        // WINDOW 213 is below 300.
        SharedSurplus y = Nets.parted("tick(3)", "more(0, 9)", "tick(2)");
        e.due(y, "flow(0, 5)", 213);
        e.due(y, "flow(0, 6)", 2);
        // The liar's WINDOW is 299 in tick 24.
        SharedSurplus w = Nets.run("link 1 1 60 span 4;flow 0 liar;", "tick(24)");
        e.due(w, "flow(0, 5)", 299);
        e.due(w, "flow(0, 6)", 2);
        // Four came of 14: PLUS 400, 100 of it for the one of tick 3: WINDOW 300 in tick 5.
        SharedSurplus z = Nets.run("link 7 1 9 span 2;flow 0 left 3;flow 0 left 2;", "tick(5)", "more(0, 99)", "tick(2)");
        e.due(z, "flow(0, 5)", 300);
        e.due(z, "flow(0, 6)", 3);
    }

    private static void greedyWindow() {
        Edge e = new Edge("Section 3", "(of a greedy one: twice WINDOW)");
        SharedSurplus x = Nets.run("link 9 9 60;flow 0 greedy;", "tick(9)");
        e.due(x, "flow(0, 6)", 4);
        // WINDOW 213: four, as 500 is above 426.
        SharedSurplus y = Nets.parted("tick(3)", "more(0, 9)", "kind(0, 3)", "tick(2)");
        e.due(y, "flow(0, 5)", 213);
        e.due(y, "flow(0, 6)", 4);
    }

    private static void allThatCanFly() {
        Edge e = new Edge("Section 3", "FLYING and 1, times 100, is not above WINDOW (of a greedy one: twice WINDOW): a packet is sent");
        // WINDOW 4,000 of six greedy ones, on ways of 72 ticks: eighty of each, and all of them go to paper and to a MARK.
        SharedSurplus x = Nets.of("link 9 9 60;".repeat(6) + "flow 0 1 2 3 greedy;flow 1 2 3 4 greedy;flow 2 3 4 5 greedy;"
            + "flow 3 4 5 0 greedy;flow 4 5 0 1 greedy;flow 5 0 1 2 greedy;");
        for (int n = 0; n < 18; n++) {
            x.tick(60);
        }
        for (int f = 0; f < 6; f++) {
            e.due(x, "flow(" + f + ", 5)", 4000);
            e.due(x, "flow(" + f + ", 6)", 80);
        }
        e.due("packets in all", x.many(4) + x.many(5) + x.many(6), 480);
        int told = x.after(60, 2);
        e.due(x, "mark()", 1);
        int before = doneOfAll(x);
        x.tick(60);
        e.due("DONE as it was told", doneOfAll(x) - before, told);
        e.due(x, "back()", 0);
        x.tick(60);
        e.due("DONE behind a MARK", doneOfAll(x) - before, told);
    }

    private static int doneOfAll(SharedSurplus x) {
        int done = 0;
        for (int f = 0; f < x.many(1); f++) {
            done += x.flow(f, 9);
        }
        return done;
    }

    private static void twoInATick() {
        Edge e = new Edge("Section 3", "it sent fewer than 2 in this TICK");
        // WINDOW 1,200 in tick 7 (see feedAtFirst).
        SharedSurplus x = Nets.run("link 9 1 60 span 4;flow 0 left 1;", "tick(4)", "more(0, 1)", "tick(3)", "more(0, 9)", "tick(1)");
        e.due(x, "flow(0, 5)", 1200);
        e.due(x, "flow(0, 6)", 2);
        e.due(x, "tick(1)", 9);
        e.due(x, "flow(0, 6)", 4);
    }

    private static void lastOnesLeft() {
        Edge e = new Edge("Section 3", "as long as LEFT is above 0");
        for (int left = 0; left <= 3; left++) {
            SharedSurplus x = Nets.run("link 9 9 60;flow 0 left " + left + ";", "tick(1)");
            e.due(x, "flow(0, 8)", Math.min(left, 2));
            e.due(x, "flow(0, 1)", Math.max(left - 2, 0));
            e.due(x, "flow(0, 6)", Math.min(left, 2));
        }
    }

    private static void offSendsNothing() {
        Edge e = new Edge("Section 3", "(3) Each FLOW by numbers that is ON:");
        SharedSurplus x = Nets.run("link 1 1 60;flow 0 off;flow 0;flow 0;", "tick(1)");
        e.due(x, "flow(0, 8)", 0);
        e.due(x, "packet(0, 0, 0)", 1);
        e.due(x, "packet(0, 1, 0)", 2);
        e.due(x, "packet(0, 2, 0)", 2);
    }

    private static void sendingOne() {
        Edge e = new Edge("Section 3", "a packet is sent: LEFT 1 less, SENT, FLYING 1 more, and COMES to the first LINK of its PATH.");
        SharedSurplus x = Nets.run("link 9 1 60;link 1 9 60;link 9 1 60;flow 1 0 2 left 1;", "tick(1)");
        e.due(x, "flow(0, 1)", 0);
        e.due(x, "flow(0, 8)", 1);
        e.due(x, "flow(0, 6)", 1);
        e.due(x, "link(1, 6)", 1);
        e.due(x, "link(0, 6)", 0);
        e.due(x, "link(2, 6)", 0);
        // One that is lost at once was sent all the same.
        SharedSurplus y = Nets.run("link 1 9 1;flow 0 left 9;", "tick(1)");
        e.due(y, "flow(0, 1)", 7);
        e.due(y, "flow(0, 8)", 2);
        e.due(y, "flow(0, 6)", 2);
    }

    private static void standsLast() {
        Edge e = new Edge("Section 3", "Else it stands last in the ROW; CAME is 1 more.");
        SharedSurplus x = Nets.run("link 1 1 60;flow 0 off;flow 0;flow 0 left 1;", "tick(1)", "turn(0, true)", "tick(1)");
        int[] flows = {2, 0, 0};
        e.due(x, "link(0, 4)", 3);
        for (int i = 0; i < 3; i++) {
            e.due(x, "packet(0, " + i + ", 0)", flows[i]);
        }
        e.due(x, "link(0, 6)", 5);
    }

    /** Flow 0 is CAUGHT in tick 4 (four came, the latest with TURN 9: CLAIM 0), and FAIR is 4 by 2. */
    private static SharedSurplus caught(String... calls) {
        return Nets.run("link 1 1 60 span 4;link 9 1 60;flow 0 liar;flow 0 left 1;", Calls.behind("tick(4)", calls));
    }

    private static void fairOfOneThatIsCaught() {
        Edge e = new Edge("Section 3", "if its FLOW is CAUGHT there and FAIR or more of it came in this SPAN");
        // As a deaf one it keeps WINDOW 200, and sends one in ticks 6, 7 and 8.
        SharedSurplus x = caught("kind(0, 1)", "tick(3)");
        e.due(x, "link(0, 14)", 1);
        e.due(x, "link(0, 15)", 2);
        e.due(x, "link(0, 6)", 2);
        e.due(x, "where(0, 3)", 0);
        e.due(x, "link(0, 4)", 0);
        e.due(x, "tick(1)", 8);
        e.due(x, "where(0, 3)", 1);
        e.due(x, "flow(0, 8)", 7);
        // One that is not CAUGHT may come as it likes: two in tick 5, and one in tick 8 (deaf, with WINDOW 200).
        SharedSurplus y = caught("turn(0, false)", "kind(1, 1)", "more(1, 9)", "tick(4)");
        e.due(y, "flow(1, 8)", 4);
        e.due(y, "where(1, 3)", 0);
        e.due(y, "flow(1, 10)", 0);
    }

    private static void caughtThere() {
        Edge e = new Edge("Section 3", "CAUGHT there");
        SharedSurplus x = caught("kind(0, 1)", "detour(0, 0, 1)", "tick(4)");
        e.due("the third one of this SPAN is sent", x.flow(0, 8) >= 7);
        e.due(x, "where(0, 3)", 0);
        e.due(x, "flow(0, 10)", 0);
    }

    private static void rowIsRoom() {
        Edge e = new Edge("Section 3", "or the ROW is ROOM: it is LOST there");
        SharedSurplus full = Nets.run("link 1 1 2;flow 0 left 2;flow 0 left 1;", "tick(1)");
        e.due(full, "where(0, 3)", 0);
        e.due(full, "where(1, 3)", 1);
        SharedSurplus fits = Nets.run("link 1 1 3;flow 0 left 2;flow 0 left 1;", "tick(1)");
        e.due(fits, "where(1, 3)", 0);
        e.due(fits, "link(0, 6)", 3);
        // A ROW above a ROOM that was made less is no less full.
        SharedSurplus above = Nets.run("link 1 1 60;flow 0;flow 0;flow 0 off;", "tick(1)", "set(0, 1, 1)", "turn(2, true)", "tick(1)");
        e.due(above, "where(2, 3)", 2);
        e.due(above, "link(0, 6)", 4);
    }

    private static void lostComesBack() {
        Edge e = new Edge("Section 3", "it is LOST there, and comes back in BACK TICKS.");
        SharedSurplus first = Nets.run("link 1 2 1;link 1 5 60;flow 0 1;", "tick(7)");
        e.due(first, "where(0, 3)", 1);
        e.due(first, "tick(1)", 8);
        e.due(first, "flow(0, 10)", 1);
        SharedSurplus second = Nets.run("link 9 2 60;link 1 5 1;flow 0 1;", "tick(2)");
        e.due(second, "where(0, 3)", 0);
        e.due(second, "tick(7)", 9);
        e.due(second, "where(0, 3)", 1);
        e.due(second, "flow(0, 10)", 0);
        e.due(second, "tick(1)", 10);
        e.due(second, "flow(0, 10)", 1);
    }

    private static void rateOfRow() {
        Edge e = new Edge("Section 3", "RATE packets from the front of the ROW (all, if fewer) get their share (section 4), and go on the wire");
        for (int flows = 4; flows <= 5; flows++) {
            SharedSurplus x = Nets.run("link 9 1 60;" + "flow 0;".repeat(flows), "tick(1)");
            e.due(x, "link(0, 5)", Math.min(9, 2 * flows));
            e.due(x, "link(0, 4)", Math.max(0, 2 * flows - 9));
        }
        SharedSurplus one = Nets.run("link 1 1 60;flow 0;flow 0;", "tick(1)");
        e.due(one, "link(0, 5)", 1);
        e.due(one, "packet(0, 0, 0)", 0);
        e.due(one, "packet(0, 1, 0)", 1);
        e.due(Nets.run("link 1 1 60;", "tick(1)"), "link(0, 5)", 0);
    }

    private static void lagOfWire() {
        Edge e = new Edge("Section 3", "and go on the wire, for LAG TICKS. Then LOW.");
        for (int lag : new int[] {1, 9}) {
            SharedSurplus x = Nets.run("link 1 " + lag + " 60;flow 0 left 1;", "tick(" + lag + ")");
            e.due(x, "link(0, 5)", 1);
            e.due(x, "tick(1)", lag + 1);
            e.due(x, "link(0, 5)", 0);
            e.due(x, "where(0, 2)", 1);
        }
        SharedSurplus low = Nets.run("link 1 1 60;flow 0;", "tick(1)");
        e.due(low, "link(0, 7)", 1);
    }

    private static void inOneTick() {
        Edge e = new Edge("Section 3", "A TICK, numbered from 1 on");
        // In tick 3, in this order: flow 0's last is back (1), one of flow 1 is lost at link 2 (2), flow 2 sends its last (3),
        // and flow 3 is CAUGHT at link 3, where CLAIM is 0 (5).
        SharedSurplus x = Nets.run("link 9 1 60;link 9 2 60;link 9 1 1;link 9 5 60 span 3;"
            + "flow 0 left 1;flow 1 2;flow 0 left 3;flow 3 greedy;", "tick(3)");
        e.dueEach(x, "event(3, ", 4, 3, NONE, 0);
        e.dueEach(x, "event(2, ", 0, 3, 2, 1);
        e.dueEach(x, "event(1, ", 3, 3, NONE, 2);
        e.dueEach(x, "event(0, ", 1, 3, 3, 3);
    }

    private static void spanDivides() {
        Edge e = new Edge("Section 3", "(5) Each LINK by numbers whose SPAN divides the TICK: the SPAN ends (section 4).");
        for (int span : new int[] {2, 30}) {
            SharedSurplus x = Nets.run("link 1 1 60 span " + span + ";flow 0 left 1;", "tick(" + (span - 1) + ")");
            e.due(x, "link(0, 6)", 1);
            e.due(x, "link(0, 17)", 0);
            e.due(x, "tick(1)", span);
            e.due(x, "link(0, 6)", 0);
            e.due(x, "link(0, 17)", 1);
            e.due(x, "tick(" + (span - 1) + ")", 2 * span - 1);
            e.due(x, "link(0, 17)", 1);
            e.due(x, "tick(1)", 2 * span);
            e.due(x, "link(0, 17)", 0);
        }
        // Another SPAN: the TICK counts from 1 on, not from that change.
        SharedSurplus y = Nets.run("link 1 1 60 span 30;flow 0 left 1;", "tick(5)", "set(0, 2, 4)", "tick(2)");
        e.due(y, "link(0, 6)", 1);
        e.due(y, "tick(1)", 8);
        e.due(y, "link(0, 6)", 0);
        // By numbers: both of two links catch in tick 4, link 0 first.
        SharedSurplus z = Nets.run("link 9 5 60 span 4;link 9 5 60 span 4;flow 1 greedy;flow 0 greedy;", "tick(4)");
        e.dueEach(z, "event(0, ", 1, 4, 1, 0);
        e.dueEach(z, "event(1, ", 1, 4, 0, 1);
    }
}

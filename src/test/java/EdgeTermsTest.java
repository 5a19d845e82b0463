/** Sections 5 and 6: events, EVEN, GAP, best rates, past, blind, paper, marks, status; each sentence that names a boundary case. */
public final class EdgeTermsTest {
    private static final int NONE = SharedSurplus.NONE;

    public static void main(String[] args) {
        latestEvents();
        lostOne();
        caughtThatWasNot();
        notAnyMoreThatWas();
        sentAll();
        lastCameBack();
        eventParts();
        even();
        gap();
        bestCut();
        bestOfSeveral();
        bestAgain();
        bestOthers();
        past();
        blind();
        onPaper();
        marks();
        firstThatHolds();
        belowNought();
        otherStatuses();
        changesNothing();
        noStatus();
        constants();
        manyCalls();
        Edge.end();
    }

    private static void latestEvents() {
        Edge e = new Edge("Section 5", "EVENTS, the latest 24:");
        // A round of three ticks: event 3 in its first, event 4 in its third.
        SharedSurplus x = Nets.of("link 9 1 60;flow 0 left 0;");
        e.due(x, "many(7)", 0);
        for (int round = 0; round < 12; round++) {
            Calls.all(x, "more(0, 1)", "tick(1)");
            e.due(x, "many(7)", 2 * round + 1);
            e.due(x, "tick(2)", 3 * round + 3);
            e.due(x, "many(7)", 2 * round + 2);
        }
        e.dueEach(x, "event(23, ", 3, 1, NONE, 0);
        e.dueEach(x, "event(0, ", 4, 36, NONE, 0);
        Calls.all(x, "more(0, 1)", "tick(1)");
        e.due(x, "many(7)", 24);
        e.dueEach(x, "event(23, ", 4, 3, NONE, 0);
        e.dueEach(x, "event(0, ", 3, 37, NONE, 0);
        e.dueEach(x, "event(1, ", 4, 36, NONE, 0);
    }

    private static void lostOne() {
        Edge e = new Edge("Section 5", "0 a packet is LOST (which: its FLOW)");
        SharedSurplus x = Nets.run("link 9 1 60;link 1 1 3;flow 0 1;flow 0 1;", "tick(1)");
        e.due(x, "many(7)", 0);
        e.due(x, "tick(1)", 2);
        e.due(x, "many(7)", 1);
        e.dueEach(x, "event(0, ", 0, 2, 1, 1);
    }

    private static void caughtThatWasNot() {
        Edge e = new Edge("Section 5", "1 a FLOW is CAUGHT that was not");
        // WINDOW 920 in tick 17, TURN 24 is told: CLAIM 0. Four came in ticks 17 and 18, and in 19 and 20; one in 21 and 22.
        SharedSurplus x = Nets.run("link 9 4 60 span 2;flow 0 liar;", "tick(17)");
        e.due(x, "flow(0, 5)", 920);
        e.due(x, "many(7)", 0);
        e.due(x, "tick(1)", 18);
        e.dueEach(x, "event(0, ", 1, 18, 0, 0);
        e.due(x, "tick(2)", 20);
        e.due(x, "link(0, 14)", 1);
        e.due(x, "many(7)", 1);
    }

    private static void notAnyMoreThatWas() {
        Edge e = new Edge("Section 5", "2 one is not any more that was");
        SharedSurplus x = Nets.run("link 9 4 60 span 2;flow 0 liar;", "tick(21)");
        e.due(x, "many(7)", 1);
        e.due(x, "tick(1)", 22);
        e.due(x, "many(7)", 2);
        e.dueEach(x, "event(0, ", 2, 22, 0, 0);
        e.due(x, "tick(2)", 24);
        e.due(x, "many(7)", 2);
    }

    private static void sentAll() {
        Edge e = new Edge("Section 5", "3 a FLOW has sent all (LEFT 0 as a packet is sent)");
        e.due(Nets.run("link 9 1 60;flow 0 left 0;", "tick(9)"), "many(7)", 0);
        SharedSurplus x = Nets.run("link 9 1 60;flow 0 left 3;", "tick(2)");
        e.due(x, "many(7)", 0);
        e.due(x, "tick(1)", 3);
        e.due(x, "many(7)", 1);
        e.dueEach(x, "event(0, ", 3, 3, NONE, 0);
        // Of two that are sent it is the second: LEFT is not 0 ahead of it, and it is told ahead of its loss.
        SharedSurplus y = Nets.run("link 1 1 1;flow 0 left 2;", "tick(1)");
        e.due(y, "many(7)", 2);
        e.dueEach(y, "event(1, ", 3, 1, NONE, 0);
        e.dueEach(y, "event(0, ", 0, 1, 0, 0);
        // The lost one is LEFT again in tick 2, and sent again in tick 3.
        e.due(y, "tick(2)", 3);
        e.due(y, "many(7)", 3);
        e.dueEach(y, "event(0, ", 3, 3, NONE, 0);
    }

    private static void lastCameBack() {
        Edge e = new Edge("Section 5", "4 its last came back (LEFT 0, FLYING 0)");
        // Back in tick 3 and 4: it is the second.
        SharedSurplus x = Nets.run("link 1 1 60;flow 0 left 2;", "tick(3)");
        e.due(x, "many(7)", 1);
        e.due(x, "tick(1)", 4);
        e.due(x, "many(7)", 2);
        e.dueEach(x, "event(0, ", 4, 4, NONE, 0);
        // One that was lost is LEFT again: not the last, though nothing flies.
        SharedSurplus y = Nets.run("link 1 1 1;flow 0 left 1;flow 0 left 1;", "tick(1)", "turn(1, false)", "tick(4)");
        e.due(y, "flow(1, 1)", 1);
        e.due(y, "flow(1, 6)", 0);
        for (int i = 0; i < y.many(7); i++) {
            e.due("event(" + i + ") is no 4 of flow 1", y.event(i, 0) != 4 || y.event(i, 3) == 0);
        }
        // With more to send, it is not the last.
        SharedSurplus z = Nets.run("link 1 1 60;flow 0 left 1;", "tick(2)", "more(0, 1)", "turn(0, false)", "tick(1)");
        e.due(z, "flow(0, 6)", 0);
        e.due(z, "many(7)", 1);
    }

    private static void eventParts() {
        Edge e = new Edge("Section 5", "of each the TICK, the LINK (of 3, 4: NONE), the FLOW.");
        // Link 1 has ROOM for one of two; flow 1 sends its last in tick 1, and it is back in 3. CLAIM 0 of flow 2, greedy, at link 2.
        SharedSurplus x = Nets.run("link 9 1 60;link 1 1 1;link 9 5 60 span 4;flow 1;flow 0 left 1;flow 2 greedy;", "tick(4)");
        e.dueEach(x, "event(3, ", 0, 1, 1, 0);
        e.dueEach(x, "event(2, ", 3, 1, NONE, 1);
        e.dueEach(x, "event(1, ", 4, 3, NONE, 1);
        e.dueEach(x, "event(0, ", 1, 4, 2, 2);
        e.due(x, "many(7)", 4);
        // Not any more, as none came in ticks 5 to 8.
        x.tick(4);
        int i = 0;
        while (i < x.many(7) && x.event(i, 0) != 2) {
            i++;
        }
        e.dueEach(x, "event(" + i + ", ", 2, 8, 2, 2);
    }

    /** WINDOWS 213, 220 and 207 in tick 9 (see Nets.parted). */
    private static SharedSurplus uneven() {
        return Nets.parted("tick(5)");
    }

    private static void even() {
        Edge e = new Edge("Section 5", "EVEN: (all that FLOWS that are ON have as WINDOW, together) twice as a factor, times 1,000, by (how many, times the sum of WINDOWS each twice as a factor), cut; 1,000 without FLOWS that are ON.");
        SharedSurplus x = uneven();
        e.due("640 * 640 * 1,000 / 3 / 136,618, cut", x.many(8), 999);
        x.turn(1, false);
        e.due("420 * 420 * 1,000 / 2 / 88,218, cut", x.many(8), 999);
        x.turn(0, false);
        e.due(x, "many(8)", 1000);
        x.turn(2, false);
        e.due(x, "many(8)", 1000);
        e.due(new SharedSurplus(), "many(8)", 1000);
        // As far apart as 4,000 and 200: 17,640,000,000 by 32,080,000; and six of 4,000.
        SharedSurplus far = Nets.run("link 9 1 60 span 2;flow 0;flow 0 left 0;", "tick(60)");
        e.due(far, "flow(0, 5)", 4000);
        e.due(far, "many(8)", 549);
        SharedSurplus six = Nets.run("link 9 1 60 span 2;".repeat(6) + "flow 0;flow 1;flow 2;flow 3;flow 4;flow 5;", "tick(60)");
        e.due(six, "flow(5, 5)", 4000);
        e.due(six, "many(8)", 1000);
    }

    private static void gap() {
        Edge e = new Edge("Section 5", "GAP: the greatest WINDOW less the least of these (0).");
        SharedSurplus x = uneven();
        e.due(x, "many(9)", 13);
        x.turn(1, false);
        e.due(x, "many(9)", 6);
        x.turn(0, false);
        e.due(x, "many(9)", 0);
        x.turn(2, false);
        e.due(x, "many(9)", 0);
        e.due(new SharedSurplus(), "many(9)", 0);
    }

    private static void bestCut() {
        Edge e = new Edge("Section 5", "that whose REST (1,000 times RATE less what those that grow no more have) by how many grow there, cut, is least");
        SharedSurplus x = Nets.of("link 1 1 1;" + "flow 0;".repeat(6));
        for (int f = 0; f < 6; f++) {
            e.due(x, "best(" + f + ")", 166);
        }
        // Link 1: 333 each of three; link 0: 2,000 less 333, for one.
        SharedSurplus y = Nets.of("link 2 1 1;link 1 1 1;flow 0 1;flow 0;flow 1;flow 1;");
        int[] due = {333, 1667, 333, 333};
        for (int f = 0; f < 4; f++) {
            e.due(y, "best(" + f + ")", due[f]);
        }
        e.due(Nets.of("link 9 1 1;flow 0;"), "best(0)", 9000);
    }

    private static void bestOfSeveral() {
        Edge e = new Edge("Section 5", "of several the first: its FLOWS that grow have that much, and grow no more.");
        // 3,000 by 3 at link 0, 1,000 by 1 at links 1 and 2: link 0 is the first.
        SharedSurplus x = Nets.of("link 3 1 1;link 1 1 1;link 1 1 1;flow 0 1;flow 0 2;flow 0;flow 2 1 off;");
        for (int f = 0; f < 3; f++) {
            e.due(x, "best(" + f + ")", 1000);
            e.due(x, "neck(" + f + ")", 0);
        }
        SharedSurplus y = Nets.of("link 9 1 1;link 1 1 1;link 1 1 1;flow 2 1 0;flow 2;");
        e.due(y, "neck(0)", 2);
        e.due(y, "best(0)", 500);
        y.turn(1, false);
        e.due(y, "neck(0)", 1);
        // Link 1: 1,000 by 3 is least; then link 0: 1,667 by 3.
        SharedSurplus z = Nets.of("link 2 1 1;link 1 1 1;flow 1;flow 1;flow 1 0;flow 0;flow 0;flow 0;");
        e.due(z, "best(2)", 333);
        e.due(z, "neck(2)", 1);
        e.due(z, "best(3)", 555);
    }

    private static void bestAgain() {
        Edge e = new Edge("Section 5", "all grow alike; again and again: of the LINKS with FLOWS that grow");
        // As many rounds as can be: each link holds one of six flows.
        SharedSurplus x = Nets.of("link 6 1 1;link 5 1 1;link 4 1 1;link 3 1 1;link 2 1 1;link 1 1 1;flow 0;flow 1;flow 2;flow 3;flow 4;flow 5;");
        for (int f = 0; f < 6; f++) {
            e.due(x, "best(" + f + ")", 6000 - 1000 * f);
            e.due(x, "neck(" + f + ")", f);
        }
        // A link without a flow, or with one that is off, holds none.
        SharedSurplus y = Nets.of("link 1 1 1;link 1 1 1;link 5 1 1;flow 1 2 off;flow 2;");
        e.due(y, "best(1)", 5000);
        e.due(y, "neck(1)", 2);
    }

    private static void bestOthers() {
        Edge e = new Edge("Section 5", "Others 0.");
        SharedSurplus x = Nets.of("link 3 1 1;flow 0;flow 0 off;");
        e.due(x, "best(0)", 3000);
        e.due(x, "best(1)", 0);
        x.turn(0, false);
        e.due(x, "best(0)", 0);
        // One that has nothing to send is ON all the same.
        e.due(Nets.of("link 3 1 1;flow 0 left 0;flow 0;"), "best(1)", 1500);
    }

    private static void past() {
        Edge e = new Edge("Section 5", "PAST: WINDOWS of all FLOWS at the ends of the latest 20 TICKS.");
        SharedSurplus x = Nets.of("link 9 1 60 span 4;flow 0 liar;flow 0 off;");
        int[] seen = new int[42];
        for (int t = 1; t <= 41; t++) {
            x.tick(1);
            seen[t] = x.flow(0, 5);
            e.due(x, "past(0, 0)", seen[t]);
            e.due("past(0, 19) in tick " + t, x.past(0, 19), t < 20 ? NONE : seen[t - 19]);
            e.due("status()", x.status(), t < 20 ? 5 : 0);
        }
        e.due("WINDOWS were unlike", seen[22] != seen[41]);
        // Of one that is off, too.
        e.due(x, "past(1, 19)", 200);
    }

    private static void blind() {
        Edge e = new Edge("Section 5", "BLIND are all FLOWS, if each takes, instead of FEED, 10,000 by its WINDOW, cut, for what is DONE.");
        // 200, and 50; 250, and 40; the next two in tick 5: 290, and 34; 324, and 30. One of flow 1 in tick 3: 250.
        SharedSurplus x = Nets.of("link 9 1 60 span 30;flow 0 left 4;flow 0 left 1;");
        e.due(x, "blind(2, 1)", 0);
        e.due(x, "blind(3, 1)", 40);
        e.due(x, "blind(5, 1)", 104);
        // What was lost halves WINDOW as ever: 200 and 100, in tick 2.
        SharedSurplus y = Nets.of("link 1 1 1;flow 0;flow 0 left 0;");
        e.due(y, "blind(2, 1)", 100);
        e.due(y, "blind(2, 3)", 1);
        // Of one alone: 50, and with the second 50 and 40.
        e.due(Nets.of("link 9 1 60 span 30;flow 0 left 1;flow 0 left 0;"), "blind(3, 1)", 50);
        e.due(Nets.of("link 9 1 60 span 30;flow 0 left 2;flow 0 left 0;"), "blind(3, 1)", 90);
        // A deaf one is no deafer: the same 40.
        e.due(Nets.of("link 9 1 60 span 30;flow 0 left 4 deaf;flow 0 left 1;"), "blind(3, 1)", 40);
        // 10,000 and no more: 10,001 by 137 would be 73. One of flow 1 is DONE in tick 9: 137, and 72, by 154.
        SharedSurplus z = Nets.run("link 1 1 6 span 2;flow 0;flow 0;", "tick(8)");
        e.due(z, "flow(0, 5)", 154);
        e.due(z, "flow(1, 5)", 137);
        e.due(z, "blind(1, 2)", 1);
        e.due(z, "blind(1, 1)", 55);
    }

    private static void onPaper() {
        Edge e = new Edge("Section 5", "ON PAPER all stays as it is; at most 120 TICKS go by.");
        String[] calls = {"when(0)", "closes(0)", "caught(2)", "after(120, 0)", "without(0, 1, 120)", "blind(120, 4)",
            "least(1, 0, 10)", "least(1, 1, 10)", "best(0)", "neck(0)"};
        String due = Future.of(Nets.lived());
        for (String call : calls) {
            e.due(call + " leaves all as it is", Future.of(Calls.all(Nets.lived(), call)).equals(due));
        }
        // However often, and whatever was asked ahead of it: each call answers as the first one of an object.
        SharedSurplus asked = Nets.lived();
        for (int n = 0; n < 40; n++) {
            for (String call : calls) {
                e.due(call, Calls.ask(asked, call), Calls.ask(Nets.lived(), call));
            }
        }
        // Two are sent in tick 1, back in 73 and 74, and two more then, back in 145 and 146.
        String far = "link 1 9 60;".repeat(4) + "flow 0 1 2 3 left 4;";
        SharedSurplus x = Nets.run(far, "tick(60)", "tick(60)", "tick(25)");
        e.due(x, "flow(0, 6)", 1);
        e.due(x, "tick(1)", 146);
        e.due(x, "flow(0, 6)", 0);
        SharedSurplus y = Nets.run(far, "tick(25)");
        e.due("when(0), 121 ticks ahead", y.when(0), NONE);
        e.due("status()", y.status(), 6);
        e.due(y, "tick(1)", 26);
        e.due(y, "when(0)", 120);
    }

    private static void marks() {
        Edge e = new Edge("Section 5", "MARKS, at most 3: all is taken back to the latest one, which is gone then.");
        SharedSurplus x = Nets.of("link 1 1 3;flow 0;flow 0;");
        for (int n = 1; n <= 3; n++) {
            x.tick(n);
            e.due(x, "mark()", n);
        }
        x.tick(1);
        e.due("mark()", x.mark(), NONE);
        e.due("status()", x.status(), 3);
        int[] ticks = {1, 3, 6};
        for (int n = 2; n >= 0; n--) {
            e.due(x, "back()", n);
            e.due(x, "many(2)", ticks[n]);
            e.due(x, "many(3)", n);
        }
        e.due("back()", x.back(), NONE);
        e.due("status()", x.status(), 5);
        // One that is gone makes room for another.
        Calls.all(x, "mark()", "mark()", "mark()", "back()");
        e.due(x, "mark()", 3);
    }

    private static void firstThatHolds() {
        Edge e = new Edge("Section 6", "STATUS of a call is the first of these that holds:");
        e.refused(Nets::lived, 1, "link(9, 18)", "flow(9, 12)", "path(9, -1)", "packet(9, -1, 0)", "packet(9, 0, 7)", "packet(0, 99, 7)",
            "given(9, 2)", "where(9, 4)", "past(9, 20)", "past(9, -1)", "set(9, 3, 1)", "set(9, 0, 10)", "more(9, 0)", "more(9, 10000)",
            "kind(9, 4)", "detour(9, -1, 9)", "detour(0, -1, 0)", "without(9, 9, 0)", "without(0, 9, 121)", "least(9, 2, 1)", "least(9, 0, 11)");
        e.refused(Nets::lived, 2, "path(9, 9)", "packet(9, 99, 0)", "past(9, 19)", "more(9, 9999)", "kind(9, 0)", "detour(9, 9, 0)", "detour(0, 9, 9)",
            "set(9, 0, 1)", "turn(9, true)", "turn(9, false)", "neck(9)", "when(9)", "caught(9)", "without(9, 9, 1)", "least(9, 0, 1)");
        e.refused(Nets::lived, 4, "detour(0, 9, 0)", "detour(0, 2, 1)");
        e.refused(() -> Nets.of("link 1 1 1;"), 1, "top(3)", "event(24, 0)", "event(0, 4)");
    }

    private static void belowNought() {
        Edge e = new Edge("Section 6", "1 a number that can't be (below 0, too, of one that counts). 2 no such LINK, FLOW.");
        e.refused(Nets::lived, 1, "load(-1)", "many(-1)", "link(0, -1)", "flow(0, -1)", "path(0, -1)", "packet(0, -1, 0)", "packet(0, 0, -1)",
            "event(-1, 0)", "event(0, -1)", "given(0, -1)", "where(0, -1)", "past(0, -1)", "top(-1)", "set(0, -1, 5)", "set(0, 0, -1)",
            "more(0, -1)", "kind(0, -1)", "detour(0, -1, 2)", "tick(-1)", "closes(-1)", "after(-1, 0)", "after(1, -1)", "without(0, 1, -1)",
            "blind(-1, 0)", "blind(1, -1)", "least(0, -1, 1)", "least(0, 0, -1)");
        e.refused(Nets::lived, 2, "link(-1, 0)", "flow(-1, 0)", "path(-1, 0)", "packet(-1, 0, 0)", "given(-1, 0)", "where(-1, 0)", "eldest(-1)",
            "past(-1, 0)", "alike(-1, 0)", "alike(0, -1)", "set(-1, 0, 5)", "turn(-1, true)", "more(-1, 1)", "kind(-1, 1)", "detour(-1, 0, 2)",
            "detour(0, 0, -1)", "best(-1)", "neck(-1)", "when(-1)", "caught(-1)", "without(-1, 0, 1)", "without(0, -1, 1)", "least(-1, 0, 1)");
        e.refused(Nets::lived, 2, "link(-2147483648, 0)", "link(2147483647, 0)", "flow(-2147483648, 0)", "flow(2147483647, 0)",
            "detour(0, 0, 2147483647)", "without(2147483647, 0, 1)", "least(2147483647, 0, 1)");
    }

    private static void otherStatuses() {
        Edge e = new Edge("Section 6", "3 one too many. 4 it is so. 5 there is none. 6 it does not come to that. 9 a FAULT. 0 else.");
        e.refused(Nets::lived, 3, "more(1, 9999)");
        e.refused(() -> Calls.all(Nets.lived(), "mark()", "mark()"), 3, "mark()");
        e.refused(Nets::lived, 4, "set(0, 0, 2)", "set(0, 1, 4)", "set(0, 2, 9)", "turn(0, true)", "turn(4, false)", "kind(0, 0)", "detour(0, 0, 0)");
        e.refused(Nets::lived, 5, "path(0, 2)", "packet(2, 0, 0)", "event(23, 0)", "past(0, 17)", "detour(0, 2, 2)", "eldest(4)", "neck(4)");
        e.refused(Nets::lived, 6, "when(1)", "closes(0)", "caught(4)", "least(1, 0, 10)", "least(0, 1, 10)");
        SharedSurplus x = Nets.lived();
        e.due("load(5)", x.load(5), NONE);
        e.due("status()", x.status(), 9);
        e.due(x, "past(0, 16)", 200);
        e.due(x, "many(0)", 3);
    }

    private static void changesNothing() {
        Edge e = new Edge("Section 6", "With another STATUS than 0 a call gives NONE, or false, and changes nothing else (but load() with 9 the tape, and what fault() tells).");
        // All of a row of refused calls, one behind the other, leave no more behind than one of them.
        String[] calls = {"load(21)", "many(10)", "link(3, 0)", "flow(5, 0)", "path(0, 2)", "packet(0, 60, 0)", "event(24, 0)", "given(0, 2)",
            "where(0, 4)", "eldest(4)", "past(0, 17)", "top(3)", "alike(0, 5)", "set(0, 0, 10)", "set(0, 0, 2)", "turn(0, true)", "turn(4, false)",
            "more(1, 9999)", "kind(0, 4)", "kind(0, 0)", "detour(0, 2, 2)", "tick(0)", "tick(61)", "best(5)", "neck(4)", "when(1)", "closes(0)",
            "caught(4)", "after(121, 0)", "without(0, 1, 121)", "blind(121, 0)", "least(0, 0, 11)", "least(1, 0, 10)"};
        SharedSurplus x = Nets.lived();
        for (String call : calls) {
            e.due(call, Calls.ask(x, call), Calls.refusal(call));
            e.due("status() behind " + call + " is another than 0", x.status() != 0);
        }
        e.due("all is as it was", Future.of(x).equals(Future.of(Nets.lived())));
        // load() with 9: the tape is empty, and fault() tells another one; else nothing has changed.
        SharedSurplus one = Nets.lived();
        e.due(one, "fault(0)", 4);
        e.due(one, "fault(1)", 5);
        e.due("load(7)", one.load(7), NONE);
        e.due("status()", one.status(), 9);
        e.due(one, "fault(0)", 2);
        e.due(one, "fault(1)", 7);
        // Nets.lived() ends so: the tape and what fault() tells are as they were then, and so is all else.
        Nets.load(one, "link 0 1 1;");
        Nets.feed(one, "link 4 3 2;flow 0;  ");
        e.due("all else", Future.of(one).equals(Future.of(Nets.lived())));
    }

    private static void noStatus() {
        Edge e = new Edge("Section 6", "status(), feed(), fault() have none.");
        SharedSurplus x = Nets.lived();
        for (String call : new String[] {"many(99)", "link(9, 0)", "many(0)"}) {
            x = Nets.lived();
            Calls.ask(x, call);
            int status = x.status();
            Calls.all(x, "status()", "feed(1, 2, 3, 4, 5)", "fault(0)", "fault(9)");
            e.due("status() behind " + call + " and those", x.status(), status);
        }
        for (int n = 0; n < 31; n++) {
            x.feed(0, 0, 0, 0, 0);
        }
        e.due("status() behind a feed that was too much", x.status(), 0);
    }

    private static void constants() {
        Edge e = new Edge("The public face", "The constants: `NONE = -1`: None.");
        e.due("NONE", SharedSurplus.NONE, -1);
    }

    private static void manyCalls() {
        Edge e = new Edge("What it is", "An object is used for at most 512 calls after it has been made");
        SharedSurplus x = new SharedSurplus();
        Nets.feed(x, "link 9 1 60;flow 0; ");
        Calls.all(x, "load(20)", "mark()", "mark()", "mark()");
        for (int call = 6; call < 511; call++) {
            e.due("call " + call, x.tick(60), 60 * (call - 5));
        }
        e.due("call 511", x.many(2), 505 * 60);
        e.due("call 512", x.flow(0, 5), 4000);
    }
}

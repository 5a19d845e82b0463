/** The text of a net, its faults (Terms), and promises 3 to 5: each sentence that names a boundary case. */
public final class EdgeTextTest {
    private static final String LINK = "link 1 1 1;";
    private static final String SIX = LINK.repeat(6);

    public static void main(String[] args) {
        counts();
        rates();
        lags();
        rooms();
        spans();
        paths();
        lefts();
        kinds();
        backs();
        longestText();
        longestTokens();
        blanks();
        words();
        numbers();
        sign();
        noLine();
        linkLines();
        flowLines();
        anyNumberOfTimes();
        firstAlongTheText();
        leastKind();
        noToken();
        outOfPlace();
        noSuchLink();
        wrongNumbers();
        marksTwice();
        oneTooMany();
        feeding();
        fullTape();
        loading();
        loadingAgain();
        loadRefused();
        loadFaulty();
        faultTold();
        faultOthers();
        Edge.end();
    }

    /** On an object of its own that holds a net already, which stays. */
    private static void fault(Edge e, String text, int kind, int place) {
        SharedSurplus x = Nets.of("link 3 2 5;flow 0;");
        String before = Snapshot.ofNet(x);
        e.due("load of " + text, Nets.load(x, text), SharedSurplus.NONE);
        e.due("status() of " + text, x.status(), 9);
        e.due("fault(0) of " + text, x.fault(0), kind);
        e.due("fault(1) of " + text, x.fault(1), place);
        e.due("the old net stays behind " + text, Snapshot.ofNet(x).equals(before));
    }

    private static SharedSurplus taken(Edge e, String text, int flows) {
        SharedSurplus x = new SharedSurplus();
        e.due("load of " + text, Nets.load(x, text), flows);
        e.due("status() of " + text, x.status(), 0);
        e.due("fault(0) of " + text, x.fault(0), 0);
        e.due("fault(1) of " + text, x.fault(1), SharedSurplus.NONE);
        return x;
    }

    private static void counts() {
        Edge e = new Edge("Terms", "LINKS, at most 6, FLOWS, at most 6, each numbered from 0 on.");
        SharedSurplus x = taken(e, SIX + "flow 0;flow 1;flow 2;flow 3;flow 4;flow 5;", 6);
        e.due(x, "many(0)", 6);
        e.due(x, "many(1)", 6);
        for (int n = 0; n < 6; n++) {
            e.due(x, "path(" + n + ", 0)", n);
            e.due(x, "link(" + n + ", 0)", 1);
        }
        fault(e, SIX + LINK, 6, 66);
        fault(e, LINK + "flow 0;".repeat(7), 6, 53);
        e.refused(() -> Nets.of(SIX + "flow 5;".repeat(6)), 2, "link(6, 0)", "link(-1, 0)", "flow(6, 0)", "flow(-1, 0)");
    }

    private static void rates() {
        Edge e = new Edge("Terms", "RATE (1 to 9 packets a TICK)");
        e.due(taken(e, "link 1 2 2;", 0), "link(0, 0)", 1);
        e.due(taken(e, "link 9 2 2;", 0), "link(0, 0)", 9);
        fault(e, "link 0 2 2;", 4, 5);
        fault(e, "link 10 2 2;", 4, 5);
        fault(e, "link 9999 2 2;", 4, 5);
    }

    private static void lags() {
        Edge e = new Edge("Terms", "LAG (1 to 9 TICKS)");
        e.due(taken(e, "link 2 1 2;", 0), "link(0, 1)", 1);
        e.due(taken(e, "link 2 9 2;", 0), "link(0, 1)", 9);
        fault(e, "link 2 0 2;", 4, 7);
        fault(e, "link 2 10 2;", 4, 7);
    }

    private static void rooms() {
        Edge e = new Edge("Terms", "ROOM (1 to 60)");
        e.due(taken(e, "link 2 2 1;", 0), "link(0, 2)", 1);
        e.due(taken(e, "link 2 2 60;", 0), "link(0, 2)", 60);
        fault(e, "link 2 2 0;", 4, 9);
        fault(e, "link 2 2 61;", 4, 9);
    }

    private static void spans() {
        Edge e = new Edge("Terms", "SPAN (2 to 30 TICKS; 10 without)");
        e.due(taken(e, "link 2 2 2 span 2;", 0), "link(0, 3)", 2);
        e.due(taken(e, "link 2 2 2 span 30;", 0), "link(0, 3)", 30);
        e.due(taken(e, "link 2 2 2;", 0), "link(0, 3)", 10);
        e.due(taken(e, "link 2 2 2 span 7;link 2 2 2;", 0), "link(1, 3)", 10);
        fault(e, "link 2 2 2 span 1;", 4, 16);
        fault(e, "link 2 2 2 span 0;", 4, 16);
        fault(e, "link 2 2 2 span 31;", 4, 16);
    }

    private static void paths() {
        Edge e = new Edge("Terms", "PATH (1 to 4 unlike LINKS)");
        e.due(taken(e, SIX + "flow 5;", 1), "flow(0, 0)", 1);
        SharedSurplus x = taken(e, SIX + "flow 5 0 4 1;", 1);
        e.due(x, "flow(0, 0)", 4);
        e.dueEach(x, "path(0, ", 5, 0, 4, 1);
        fault(e, SIX + "flow;", 2, 70);
        fault(e, SIX + "flow 5 0 4 1 2;", 6, 79);
        fault(e, SIX + "flow 5 5;", 4, 73);
        fault(e, SIX + "flow 5 0 4 5;", 4, 77);
        e.due(taken(e, SIX + "flow 5;flow 5;", 2), "path(1, 0)", 5);
    }

    private static void lefts() {
        Edge e = new Edge("Terms", "LEFT (0 to 9,999 packets it has still to send; 9,999 without)");
        e.due(taken(e, LINK + "flow 0 left 0;", 1), "flow(0, 1)", 0);
        e.due(taken(e, LINK + "flow 0 left 9999;", 1), "flow(0, 1)", 9999);
        e.due(taken(e, LINK + "flow 0 left 9998;", 1), "flow(0, 1)", 9998);
        e.due(taken(e, LINK + "flow 0;", 1), "flow(0, 1)", 9999);
        e.due(taken(e, LINK + "flow 0 left 3;flow 0;", 2), "flow(1, 1)", 9999);
        fault(e, LINK + "flow 0 left 10000;", 1, 23);
    }

    private static void kinds() {
        Edge e = new Edge("Terms", "KIND: 0 honest, 1 deaf, 2 liar, 3 greedy; it is ON or off.");
        SharedSurplus x = taken(e, LINK + "flow 0;flow 0 deaf;flow 0 liar;flow 0 greedy;flow 0 off;", 5);
        for (int f = 0; f < 5; f++) {
            e.due(x, "flow(" + f + ", 2)", f % 4);
            e.due(x, "flow(" + f + ", 3)", f < 4 ? 1 : 0);
        }
    }

    private static void backs() {
        Edge e = new Edge("Terms", "BACK of a FLOW: LAGS of its PATH together.");
        e.due(taken(e, LINK + "flow 0;", 1), "flow(0, 4)", 1);
        e.due(taken(e, "link 1 9 1;".repeat(5) + "flow 0 1 2 4;", 1), "flow(0, 4)", 36);
        e.due(taken(e, "link 1 9 1;link 1 2 1;link 1 4 1;flow 2 0;", 1), "flow(0, 4)", 13);
    }

    private static void longestText() {
        Edge e = new Edge("Terms", "A NET is a TEXT of at most 600 bytes.");
        String net = LINK + "flow 0;";
        SharedSurplus x = taken(e, " ".repeat(600 - net.length()) + net, 1);
        e.due(x, "many(0)", 1);
        SharedSurplus y = new SharedSurplus();
        Nets.feed(y, net + " ".repeat(600));
        e.due("load(601)", y.load(601), SharedSurplus.NONE);
        e.due("status()", y.status(), 1);
        e.due("load(600)", y.load(600), 1);
        fault(e, " ".repeat(600 - net.length() + 1) + net.substring(0, net.length() - 1), 2, 600);
    }

    private static void longestTokens() {
        Edge e = new Edge("Terms", "TOKENS, as long as they go, between them blanks (10, 32)");
        fault(e, "linkflow 1 1 1;", 2, 0);
        fault(e, LINK + "flow 0 offdeaf;", 2, 18);
        fault(e, "lin k 1 1 1;", 2, 0);
        e.due(taken(e, "link 1 1 23;", 0), "link(0, 2)", 23);
        fault(e, "link 1 1 2 3;", 2, 11);
        e.due(taken(e, "link1 1 1span2;flow0left5off liar;", 1), "flow(0, 1)", 5);
    }

    private static void blanks() {
        Edge e = new Edge("Terms", "between them blanks (10, 32)");
        taken(e, "\n link\n1 1  1\n\n;\n \nflow 0\n;\n", 1);
        for (char sign : new char[] {0, 9, 11, 13, 31, 33, 127, 160, 255}) {
            fault(e, "link" + sign + "1 1 1;", 1, 4);
        }
    }

    private static void words() {
        Edge e = new Edge("Terms", "WORDS (small letters)");
        fault(e, "a;", 2, 0);
        fault(e, "z;", 2, 0);
        for (char sign : new char[] {'`', '{', 'A', 'Z', '_', (char) 228}) {
            fault(e, sign + ";", 1, 0);
        }
        fault(e, "Link 1 1 1;", 1, 0);
        fault(e, "liNk 1 1 1;", 2, 0);
        fault(e, LINK + "flow 0 oFf;", 2, 18);
        // A letter less, more, or another one, in front or behind.
        for (String word : new String[] {"ink", "lin", "xink", "linx", "links", "alink", "flo", "low", "flox", "xlow", "flows"}) {
            fault(e, LINK + word + " 0 1 1;", 2, 11);
        }
        for (String word : new String[] {"spam", "xpan", "spans", "spa"}) {
            fault(e, "link 1 1 1 " + word + " 5;", 2, 11);
        }
        for (String word : new String[] {"lef", "xeft", "lefx", "lefts", "dea", "xeaf", "deax", "lia", "xiar", "liax", "gree", "xreedy", "greedx", "of", "xff", "ofx", "offf"}) {
            fault(e, LINK + "flow 0 " + word + ";", 2, 18);
        }
        fault(e, "link 1 1 1 Span 5;", 1, 11);
    }

    private static void numbers() {
        Edge e = new Edge("Terms", "NUMBERS (1 to 4 digits)");
        e.due(taken(e, "link 1 1 9;", 0), "link(0, 2)", 9);
        e.due(taken(e, "link 1 1 0009;", 0), "link(0, 2)", 9);
        fault(e, "link 1 1 00009;", 1, 9);
        fault(e, "link / 1 1;", 1, 5);
        fault(e, "link : 1 1;", 1, 5);
        fault(e, "link -1 1 1;", 1, 5);
        fault(e, "link +1 1 1;", 1, 5);
        fault(e, "link 1.5 1 1;", 1, 6);
    }

    private static void sign() {
        Edge e = new Edge("Terms", "the SIGN ;");
        taken(e, LINK, 0);
        fault(e, "link 1 1 1:", 1, 10);
        fault(e, "link 1 1 1<", 1, 10);
        fault(e, "link 1 1 1,", 1, 10);
    }

    private static void noLine() {
        Edge e = new Edge("Terms", "TEXT: {LINE}.");
        SharedSurplus x = new SharedSurplus();
        e.due(x, "load(0)", 0);
        e.due("fault(0)", x.fault(0), 0);
        e.due(taken(e, "\n  \n", 0), "many(0)", 0);
        taken(e, SIX + "flow 0;".repeat(6), 6);
        taken(e, LINK + "flow 0;" + LINK + "flow 1;flow 0 1;", 3);
        fault(e, ";", 2, 0);
        fault(e, LINK + ";", 2, 11);
        fault(e, LINK + "1", 2, 11);
        fault(e, LINK + "left 5;", 2, 11);
    }

    private static void linkLines() {
        Edge e = new Edge("Terms", "LINE: link NUMBER NUMBER NUMBER [span NUMBER] ;");
        fault(e, "link;", 2, 4);
        fault(e, "link 1;", 2, 6);
        fault(e, "link 1 1;", 2, 8);
        fault(e, "link 1 1 1 1;", 2, 11);
        fault(e, "link 1 1 span 5;", 2, 9);
        fault(e, "link 1 1 1 span;", 2, 15);
        fault(e, "link 1 1 1 5;", 2, 11);
        fault(e, "link 1 1 1 span 5 5;", 2, 18);
        fault(e, "link 1 1 1 span 5 span 5;", 2, 18);
        fault(e, "link 1 1 1 off;", 2, 11);
        fault(e, "link span 5;", 2, 5);
    }

    private static void flowLines() {
        Edge e = new Edge("Terms", "or flow NUMBER {NUMBER} {MARK} ;");
        fault(e, LINK + "flow;", 2, 15);
        fault(e, LINK + "flow off;", 2, 16);
        fault(e, LINK + "flow off 0;", 2, 16);
        fault(e, LINK + LINK + "flow 0 off 1;", 2, 33);
        fault(e, LINK + LINK + "flow 0 left 1 1;", 2, 36);
        fault(e, LINK + "flow 0 span 5;", 2, 18);
        fault(e, LINK + "flow 0 honest;", 2, 18);
        fault(e, LINK + "flow 0 on;", 2, 18);
        Edge m = new Edge("Terms", "MARK: left NUMBER, or deaf, liar, greedy, or off.");
        fault(m, LINK + "flow 0 left;", 2, 22);
        fault(m, LINK + "flow 0 left off;", 2, 23);
        fault(m, LINK + "flow 0 deaf 5;", 2, 23);
        m.due(taken(m, LINK + "flow 0 left 7;", 1), "flow(0, 1)", 7);
    }

    private static void anyNumberOfTimes() {
        Edge e = new Edge("Terms", "({ } any number of times, [ ] once or not.)");
        String[] orders = {"left 7 liar off", "left 7 off liar", "liar left 7 off", "liar off left 7", "off left 7 liar", "off liar left 7"};
        for (String marks : orders) {
            SharedSurplus x = taken(e, LINK + "flow 0 " + marks + ";", 1);
            e.due(x, "flow(0, 1)", 7);
            e.due(x, "flow(0, 2)", 2);
            e.due(x, "flow(0, 3)", 0);
        }
        taken(e, LINK + "flow 0;", 1);
        taken(e, LINK.repeat(4) + "flow 0 1 2 3 off;", 1);
    }

    private static void firstAlongTheText() {
        Edge e = new Edge("Terms", "FAULTS, the first along the text (of one TOKEN the least kind)");
        fault(e, "link 0 1 99999;", 4, 5);
        fault(e, LINK + "flow 1 ?;", 3, 16);
        fault(e, "link 1 1 1 off 77777;", 2, 11);
        fault(e, LINK + "flow 0 0 9;", 4, 18);
        fault(e, LINK + "flow 0 off off ?", 5, 22);
        fault(e, SIX + "link ? 0", 6, 66);
        fault(e, SIX + "flow 0 1 2 3 4 ?", 6, 79);
    }

    private static void leastKind() {
        Edge e = new Edge("Terms", "(of one TOKEN the least kind)");
        // 1 ahead of 2: nothing could stand there, and it is no TOKEN.
        fault(e, "?", 1, 0);
        fault(e, LINK + "flow 0 off 12345;", 1, 22);
        // 1 ahead of 3, 4 and 6.
        fault(e, LINK + "flow 12345;", 1, 16);
        fault(e, "link 12345 1 1;", 1, 5);
        fault(e, SIX + "flow 0 1 2 3 12345;", 1, 79);
        // 2 ahead of 3, 4, 5 and 6.
        fault(e, LINK + "flow 0 off 9;", 2, 22);
        fault(e, "link 1 1 1 span 5 99;", 2, 18);
        fault(e, LINK + "flow 0 deaf left deaf;", 2, 28);
        fault(e, LINK + "flow 0 left left 5;", 2, 23);
        fault(e, LINK.repeat(5) + "link 1 1 1 link 1 1 1;", 2, 66);
        fault(e, SIX + "flow 0 1 2 3 off 4;", 2, 83);
        // 3 ahead of 6, and 4 ahead of 6.
        fault(e, SIX + "flow 0 1 2 3 6;", 3, 79);
        fault(e, SIX + "flow 0 1 2 3 3;", 4, 79);
    }

    private static void noToken() {
        Edge e = new Edge("Terms", "1 no TOKEN begins so (a NUMBER of 5 digits and more: at its first).");
        fault(e, "link 1 1 ?1;", 1, 9);
        fault(e, "link 1 1 1?;", 1, 10);
        fault(e, "link 1 1 12345;", 1, 9);
        fault(e, "link 1 1 123456789012;", 1, 9);
        fault(e, "link 1 1 00001;", 1, 9);
        fault(e, "link 1 1 12345x;", 1, 9);
        fault(e, LINK + (char) 200, 1, 11);
    }

    private static void outOfPlace() {
        Edge e = new Edge("Terms", "2 it can't stand there (the end: the text's length).");
        fault(e, "link", 2, 4);
        fault(e, "link 1 1 1", 2, 10);
        fault(e, "link 1 1 1  \n ", 2, 14);
        fault(e, "link 1 1 1 span", 2, 15);
        fault(e, LINK + "flow", 2, 15);
        fault(e, LINK + "flow 0 left", 2, 22);
        fault(e, LINK + "flow 0 off", 2, 21);
        fault(e, "link 1 1 1 flow", 2, 11);
        SharedSurplus x = new SharedSurplus();
        Nets.feed(x, "link 1 1 60;");
        e.due("load(10) cuts the text", x.load(10), SharedSurplus.NONE);
        e.due("fault(0)", x.fault(0), 2);
        e.due("fault(1)", x.fault(1), 10);
        // What stands behind the n-th byte is no part of the text, be it a blank.
        Nets.feed(x, "link 1 1 1   ;");
        e.due("load(10) cuts the text", x.load(10), SharedSurplus.NONE);
        e.due("fault(0)", x.fault(0), 2);
        e.due("fault(1)", x.fault(1), 10);
    }

    private static void noSuchLink() {
        Edge e = new Edge("Terms", "3 a LINK of a PATH that there is not, as yet.");
        taken(e, LINK + LINK + "flow 1;", 1);
        fault(e, LINK + LINK + "flow 2;", 3, 27);
        fault(e, LINK + LINK + "flow 0 2;", 3, 29);
        fault(e, LINK + "flow 1;" + LINK, 3, 16);
        taken(e, LINK + LINK + "flow 1;" + LINK, 1);
        fault(e, "flow 0;", 3, 5);
        fault(e, SIX + "flow 6;", 3, 71);
        fault(e, SIX + "flow 9999;", 3, 71);
    }

    private static void wrongNumbers() {
        Edge e = new Edge("Terms", "4 a NUMBER that can't be; a LINK that the PATH has already.");
        fault(e, "link 1 1 1;link 1 1 0;", 4, 20);
        fault(e, "link 1 1 1 span 99;", 4, 16);
        fault(e, LINK + LINK + "flow 0 1 0;", 4, 31);
        fault(e, LINK + LINK + "flow 1 1;", 4, 29);
        fault(e, LINK + LINK + "flow 1 0001;", 4, 29);
    }

    private static void marksTwice() {
        Edge e = new Edge("Terms", "5 a MARK that it has (deaf, liar, greedy are one), at that WORD.");
        String[] kinds = {"deaf", "liar", "greedy"};
        for (String one : kinds) {
            for (String two : kinds) {
                fault(e, LINK + "flow 0 " + one + " " + two + ";", 5, 19 + one.length());
                fault(e, LINK + "flow 0 " + one + " off left 1 " + two + ";", 5, 30 + one.length());
            }
        }
        fault(e, LINK + "flow 0 off off;", 5, 22);
        fault(e, LINK + "flow 0 left 1 left 1;", 5, 25);
        fault(e, LINK + "flow 0 left 9999 left 0;", 5, 28);
        fault(e, LINK + "flow 0 left 1 left;", 5, 25);
        fault(e, LINK + "flow 0 off left 1 deaf off;", 5, 34);
        taken(e, LINK + "flow 0 off deaf left 1;flow 0 off deaf left 1;", 2);
    }

    private static void oneTooMany() {
        Edge e = new Edge("Terms", "6 a seventh LINK, FLOW (at that WORD), a fifth LINK of a PATH (at it).");
        fault(e, SIX + "  link", 6, 68);
        fault(e, SIX + "link 99 1 1;", 6, 66);
        fault(e, LINK + "flow 0;".repeat(6) + "flow", 6, 53);
        fault(e, LINK + "flow 0;".repeat(6) + "flow 7;", 6, 53);
        taken(e, LINK + "flow 0;".repeat(6) + LINK, 6);
        taken(e, SIX + "flow 0;".repeat(6), 6);
        fault(e, SIX + "flow 2 3 4 5  1;", 6, 80);
    }

    private static void feeding() {
        Edge e = new Edge("Promise 3", "Twenty bytes come behind those on the tape, the highest of each int first");
        SharedSurplus x = new SharedSurplus();
        // "link", " 1 2", " 3;f", "low ", "0;??"
        e.due("feed", x.feed(0x6c696e6b, 0x20312032, 0x20333b66, 0x6c6f7720, 0x303b3f3f), 20);
        e.due(x, "load(18)", 1);
        e.dueEach(x, "link(0, ", 1, 2, 3);
        e.due("feed", x.feed(0x6c696e6b, 0x20342035, 0x20363b66, 0x6c6f7720, 0x303b666c), 20);
        e.due("feed", x.feed(0x6f772030, 0x3b3f3f3f, 0, 0, 0), 40);
        e.due(x, "load(25)", 2);
        e.dueEach(x, "link(0, ", 4, 5, 6);
        // Bytes above 127 are bytes as others are.
        Calls.all(x, "feed(-1, -2147483648, -1, -1, -1)");
        e.due("load(20)", x.load(20), SharedSurplus.NONE);
        e.due("fault(0)", x.fault(0), 1);
        e.due("fault(1)", x.fault(1), 0);
    }

    private static void fullTape() {
        Edge e = new Edge("Promise 3", "how many it has; NONE if there would be more than 600.");
        SharedSurplus x = new SharedSurplus();
        Calls.ask(x, "many(10)");
        for (int n = 1; n <= 30; n++) {
            e.due(x, "feed(538976288, 538976288, 538976288, 538976288, 538976288)", 20 * n);
        }
        e.due(x, "feed(1, 2, 3, 4, 5)", SharedSurplus.NONE);
        e.due(x, "feed(-1, -1, -1, -1, -1)", SharedSurplus.NONE);
        e.due("status() is as it was", x.status(), 1);
        e.due(x, "load(600)", 0);
        e.due(x, "feed(0, 0, 0, 0, 0)", 20);
    }

    private static void loading() {
        Edge e = new Edge("Promise 4", "The first n bytes of the tape (which is empty then) are the NET, TICK 0, no EVENTS; MARKS stay: how many FLOWS");
        SharedSurplus x = Nets.lived();
        e.due("there are EVENTS", x.many(7) > 0);
        Nets.load(x, "");
        Nets.feed(x, "link 1 1 1;flow 0;??");
        e.due(x, "load(18)", 1);
        e.due(x, "feed(0, 0, 0, 0, 0)", 20);
        e.due(x, "load(0)", 0);
        e.due("the tape is empty behind load(0)", x.feed(0, 0, 0, 0, 0), 20);
        Nets.load(x, "");
        Nets.load(x, LINK + "flow 0;flow 0;");
        e.dueEach(x, "many(", 1, 2, 0, 1, 0, 0, 0, 0, 1000, 0);
        e.due("past(0, 0)", x.past(0, 0), SharedSurplus.NONE);
        e.due("status()", x.status(), 5);
        SharedSurplus fresh = Nets.of(LINK + "flow 0;flow 0;");
        fresh.mark();
        Calls.all(x, "tick(40)");
        Calls.all(fresh, "tick(40)");
        e.due("all goes on as of a new object", Snapshot.of(x).equals(Snapshot.of(fresh)));
        e.due(x, "back()", 0);
        e.due(x, "many(1)", 5);
        e.due(x, "many(2)", 10);
    }

    private static void loadingAgain() {
        Edge e = new Edge("Promise 4", "are the NET, TICK 0, no EVENTS");
        // Nothing of earlier nets is left, however many there were, and whatever was asked on paper.
        String marked = "link 9 9 1 span 2;".repeat(6) + "flow 0 left 1 greedy;flow 1 deaf off;flow 2 left 0 liar;flow 3 off;flow 0 4 greedy;flow 5 liar;";
        SharedSurplus x = new SharedSurplus();
        for (int n = 0; n < 3; n++) {
            e.due("load", Nets.load(x, marked), 6);
            Calls.all(x, "tick(30)", "blind(9, 0)");
        }
        String plain = LINK.repeat(2) + "flow 0;flow 0 1;flow 1;flow 0;flow 1;flow 1 0;";
        for (int n = 0; n < 3; n++) {
            e.due("load", Nets.load(x, plain), 6);
            e.due("as of a new object", Snapshot.of(x).equals(Snapshot.of(Nets.of(plain))));
            Calls.all(x, "tick(30)", "blind(9, 0)");
        }
        Nets.load(x, plain);
        e.due("it goes on as of a new object", Future.of(x).equals(Future.of(Nets.of(plain))));
    }

    private static void loadRefused() {
        Edge e = new Edge("Promise 4", "(1: the tape has not so many, too; 9: the old one stays)");
        e.refused(Nets::lived, 1, "load(21)", "load(-1)", "load(600)", "load(2147483647)", "load(-2147483648)");
        e.refused(SharedSurplus::new, 1, "load(1)", "load(-1)");
        SharedSurplus x = Nets.lived();
        e.due(x, "load(20)", 1);
        e.due("load(1) of an empty tape", x.load(1), SharedSurplus.NONE);
        e.due("status()", x.status(), 1);
    }

    private static void loadFaulty() {
        Edge e = new Edge("Promise 4", "9: the old one stays");
        SharedSurplus one = Nets.lived();
        SharedSurplus two = Nets.lived();
        e.due("load(15)", one.load(15), SharedSurplus.NONE);
        e.due("status()", one.status(), 9);
        e.due("the tape is empty then", one.feed(0, 0, 0, 0, 0), 20);
        for (int n = 0; n < 5; n++) {
            e.due("the old net goes on", Snapshot.ofNet(one).equals(Snapshot.ofNet(two)));
            e.due("the same TICK", one.tick(5), two.tick(5));
        }
        e.due(one, "back()", 0);
        e.due(two, "back()", 0);
        e.due("MARKS stay", Snapshot.ofNet(one).equals(Snapshot.ofNet(two)));
    }

    private static void faultTold() {
        Edge e = new Edge("Promise 5", "Of the latest load() with STATUS 0 or 9, what 0: the FAULT (0 without one), 1: its place (NONE without).");
        SharedSurplus x = new SharedSurplus();
        Nets.load(x, "link 1 1 0;");
        e.due(x, "fault(0)", 4);
        e.due(x, "fault(1)", 9);
        x.load(1);
        e.due("status()", x.status(), 1);
        e.due("a load with STATUS 1 tells nothing", x.fault(0), 4);
        Calls.all(x, "mark()", "tick(1)", "many(99)", "back()");
        e.due(x, "fault(1)", 9);
        Nets.load(x, LINK);
        e.due(x, "fault(0)", 0);
        e.due(x, "fault(1)", SharedSurplus.NONE);
        Nets.load(x, "?");
        e.due(x, "fault(0)", 1);
        e.due(x, "fault(1)", 0);
    }

    private static void faultOthers() {
        Edge e = new Edge("Promise 5", "NONE for others, and ahead of any.");
        SharedSurplus x = new SharedSurplus();
        e.due(x, "fault(0)", SharedSurplus.NONE);
        e.due(x, "fault(1)", SharedSurplus.NONE);
        x.load(1);
        e.due(x, "fault(0)", SharedSurplus.NONE);
        Nets.load(x, "link 1 1 0;");
        for (String what : new String[] {"-1", "2", "3", "2147483647", "-2147483648"}) {
            e.due(x, "fault(" + what + ")", SharedSurplus.NONE);
        }
        e.due("fault() has no STATUS", x.status(), 9);
    }
}

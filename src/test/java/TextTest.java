/** Promises 3 to 5: the tape, the text of a net, its faults. */
public final class TextTest {
    private static final String LINK = "link 1 1 1;";

    public static void main(String[] args) {
        feeding();
        loading();
        goodTexts();
        faults();
        faultsOnOneToken();
        telling();
        Check.end();
    }

    private static void feeding() {
        Check c = new Check("3");
        SharedSurplus x = new SharedSurplus();
        for (int n = 1; n <= 30; n++) {
            c.due("feed " + n, x.feed(0x6c696e6b, 0x20312031, 0x20313b20, 0x20202020, 0x0a0a0a0a), 20 * n);
        }
        c.due("feed 31", x.feed(0, 0, 0, 0, 0), -1);
        c.due("status()", x.status(), 0);
        c.due("the tape stays as it was: load(600)", x.load(600), -1);
        c.due("status()", x.status(), 9);
        c.due("a seventh link", x.fault(0), 6);
        c.due("at", x.fault(1), 120);
        c.due("the tape is empty again", x.feed(0, 0, 0, 0, 0), 20);

        SharedSurplus y = new SharedSurplus();
        y.feed(0x6c696e6b, 0x20312032, 0x20333b66, 0x6c6f7720, 0x303bff80);
        c.due("the highest byte of each int comes first: load(18)", y.load(18), 1);
        c.due("LAG", y.link(0, 1), 2);
        y.feed(0xff800000, 0, 0, 0, 0);
        c.due("bytes above 127", y.load(2), -1);
        c.due("fault(0)", y.fault(0), 1);
        c.due("fault(1)", y.fault(1), 0);
    }

    private static void loading() {
        Check c = new Check("4");
        SharedSurplus x = Nets.of("link 2 3 4 span 5;flow 0 left 7;flow 0;");
        c.due("status()", x.status(), 0);
        x.tick(9);
        x.mark();
        Nets.feed(x, LINK + "flow 0;");
        c.refused(x, "load(-1)", 1, () -> x.load(-1));
        c.refused(x, "load(21)", 1, () -> x.load(21));
        c.refused(x, "load(a million)", 1, () -> x.load(1000000));
        c.due("the tape stayed: load(18)", x.load(18), 1);
        c.due("LINKS", x.many(0), 1);
        c.due("TICK", x.many(2), 0);
        c.due("EVENTS", x.many(7), 0);
        c.due("MARKS stay", x.many(3), 1);
        c.due("nothing stands", x.many(4) + x.many(5) + x.many(6), 0);
        c.due("past(0, 0)", x.past(0, 0), -1);
        c.due("the same as of a new object", Snapshot.of(x).equals(marked(Nets.of(LINK + "flow 0;"))), true);
        c.due("tape is empty", x.feed(0, 0, 0, 0, 0), 20);

        String before = Snapshot.ofNet(x);
        c.due("load(5) with a fault", x.load(5), -1);
        c.due("status()", x.status(), 9);
        c.due("the old net stays", Snapshot.ofNet(x).equals(before), true);
        c.due("tape is empty behind a fault", x.feed(0, 0, 0, 0, 0), 20);

        c.due("an empty text", x.load(0), 0);
        c.due("status()", x.status(), 0);
        c.due("LINKS", x.many(0), 0);
        c.due("fault(0)", x.fault(0), 0);
        c.due("back to the first net", x.back(), 0);
        c.due("FLOWS", x.many(1), 2);
        c.due("TICK", x.many(2), 9);
    }

    private static String marked(SharedSurplus x) {
        x.mark();
        return Snapshot.of(x);
    }

    private static void goodTexts() {
        Check c = new Check("4");
        SharedSurplus x = new SharedSurplus();
        c.due("blanks alone", Nets.load(x, " \n\n  "), 0);
        c.due("links alone", Nets.load(x, LINK + LINK), 0);
        c.due("no blanks where none are needed", Nets.load(x, "link9 9 60span30;flow0left9999off greedy;"), 1);
        c.due("RATE", x.link(0, 0), 9);
        c.due("LAG", x.link(0, 1), 9);
        c.due("ROOM", x.link(0, 2), 60);
        c.due("SPAN", x.link(0, 3), 30);
        c.due("LOW", x.link(0, 7), 60);
        c.due("LEFT", x.flow(0, 1), 9999);
        c.due("KIND", x.flow(0, 2), 3);
        c.due("ON", x.flow(0, 3), 0);
        c.due("leading noughts", Nets.load(x, "link 0001 0002 0003;\nflow 0000 deaf left 0000;"), 1);
        c.due("SPAN without", x.link(0, 3), 10);
        c.due("LEFT", x.flow(0, 1), 0);
        c.due("KIND", x.flow(0, 2), 1);
        c.due("liar", Nets.load(x, LINK + "flow 0 liar;"), 1);
        c.due("KIND", x.flow(0, 2), 2);
        c.due("lines in any order", Nets.load(x, LINK + "flow 0;" + LINK + "flow 1 0;"), 2);
        c.due("TURN", x.flow(1, 7), 4);
        String six = LINK + LINK + LINK + LINK + LINK + LINK;
        c.due("six of each", Nets.load(x, six + "flow 0;flow 1;flow 2;flow 3;flow 4;flow 5 4 3 2;"), 6);
        c.due("LINKS", x.many(0), 6);
        c.due("a path of four", x.flow(5, 0), 4);
    }

    private static void fault(String text, int kind, int place) {
        Check c = new Check("4 and 5");
        SharedSurplus x = new SharedSurplus();
        c.due("load of " + text, Nets.load(x, text), -1);
        c.due("status()", x.status(), 9);
        c.due("fault(0) of " + text, x.fault(0), kind);
        c.due("fault(1) of " + text, x.fault(1), place);
        c.due("LINKS", x.many(0), 0);
    }

    private static void faults() {
        fault("link 1\t1 1;", 1, 6);
        fault("Link 1 1 1;", 1, 0);
        fault("link 1 1 1.", 1, 10);
        fault("link 1 00001 1;", 1, 7);
        fault("link 1 -1 1;", 1, 7);
        fault("link", 2, 4);
        fault("link 1 1 1  ", 2, 12);
        fault("link 1 1 1 span 5", 2, 17);
        fault("link 1 1;", 2, 8);
        fault("link 1 1 1 1;", 2, 11);
        fault("link 1 1 1 span;", 2, 15);
        fault("link 1 1 1 span 5 span 5;", 2, 18);
        fault("link 1 1 1 left 5;", 2, 11);
        fault(";", 2, 0);
        fault("7", 2, 0);
        fault("span 5;", 2, 0);
        fault("links 1 1 1;", 2, 0);
        fault("lin", 2, 0);
        fault("linK", 2, 0);
        fault("link 1 1 1 link 1 1 1;", 2, 11);
        fault("flow;", 2, 4);
        fault("flow off;", 2, 5);
        fault(LINK + "flow 0", 2, 17);
        fault(LINK + "flow 0 left", 2, 22);
        fault(LINK + "flow 0 left;", 2, 22);
        fault(LINK + "flow 0 left deaf;", 2, 23);
        fault(LINK + "flow 0 off 0;", 2, 22);
        fault(LINK + "flow 0 span 5;", 2, 18);
        fault(LINK + "flow 0 left 5 6;", 2, 25);
        fault(LINK + "flow 0 deafliar;", 2, 18);
        fault(LINK + "flow 1;", 3, 16);
        fault(LINK + "flow 0 1;" + LINK, 3, 18);
        fault("link 0 1 1;", 4, 5);
        fault("link 10 1 1;", 4, 5);
        fault("link 1 0 1;", 4, 7);
        fault("link 1 10 1;", 4, 7);
        fault("link 1 1 0;", 4, 9);
        fault("link 1 1 61;", 4, 9);
        fault("link 1 1 1 span 1;", 4, 16);
        fault("link 1 1 1 span 31;", 4, 16);
        fault(LINK + "flow 0 0;", 4, 18);
        fault(LINK + "flow 0 off off;", 5, 22);
        fault(LINK + "flow 0 left 1 off left 1;", 5, 29);
        fault(LINK + "flow 0 deaf deaf;", 5, 23);
        fault(LINK + "flow 0 liar off greedy;", 5, 27);
        fault(LINK + "flow 0 deaf left 3 liar;", 5, 30);
        fault(LINK + "flow 0 deaf left 3 off liar;", 5, 34);
        fault(LINK + "flow 0 deaf left 3 off on;", 2, 34);
        String six = LINK + LINK + LINK + LINK + LINK + LINK;
        fault(six + "link;", 6, 66);
        fault(six + "flow 0;flow 0;flow 0;flow 0;flow 0;flow 0;flow 9;", 6, 108);
        fault(six + "flow 0 1 2 3 4;", 6, 79);
    }

    private static void faultsOnOneToken() {
        String six = LINK + LINK + LINK + LINK + LINK + LINK;
        fault(six + "flow 0 1 2 3 6;", 3, 79);
        fault(six + "flow 0 1 2 3 3;", 4, 79);
        fault(six + "flow 0 1 2 3 10000;", 1, 79);
        fault("10000", 1, 0);
        fault("link 0 10000 1;", 4, 5);
    }

    private static void telling() {
        Check c = new Check("5");
        SharedSurplus x = new SharedSurplus();
        c.due("fault(0) ahead of any", x.fault(0), -1);
        x.load(1);
        c.due("fault(0) behind a load with 1", x.fault(0), -1);
        Nets.load(x, "link 1 1 0;");
        c.due("fault(0)", x.fault(0), 4);
        c.due("fault(1)", x.fault(1), 9);
        c.due("fault(2)", x.fault(2), -1);
        c.due("fault(-1)", x.fault(-1), -1);
        c.due("status() is not changed", x.status(), 9);
        x.load(1);
        c.due("fault(0) behind a load with 1", x.fault(0), 4);
        x.mark();
        Nets.load(x, LINK);
        c.due("fault(0) without one", x.fault(0), 0);
        c.due("fault(1) without one", x.fault(1), -1);
        x.back();
        c.due("the latest load is not taken back", x.fault(0), 0);
    }
}

/** Promises 1 and 2: a new object, and its status. */
public final class StartTest {
    public static void main(String[] args) {
        Check c = new Check("1");
        SharedSurplus x = new SharedSurplus();
        c.due("NONE", SharedSurplus.NONE, -1);
        c.due("status()", x.status(), 0);
        for (int what = 0; what <= 7; what++) {
            c.due("many(" + what + ")", x.many(what), 0);
        }
        c.due("many(8)", x.many(8), 1000);
        c.due("many(9)", x.many(9), 0);
        c.due("fault(0)", x.fault(0), -1);
        c.due("fault(1)", x.fault(1), -1);
        c.refused(x, "load(1)", 1, () -> x.load(1));
        c.due("the first feed", x.feed(0, 0, 0, 0, 0), 20);

        c = new Check("2");
        c.due("many(10)", x.many(10), -1);
        c.due("status()", x.status(), 1);
        x.feed(0, 0, 0, 0, 0);
        x.fault(7);
        x.status();
        c.due("status() behind feed, fault, status", x.status(), 1);
        c.due("tick(1)", x.tick(1), 1);
        c.due("status()", x.status(), 0);
        Check.end();
    }
}

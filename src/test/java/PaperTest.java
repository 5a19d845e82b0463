import java.util.function.IntSupplier;

/** Promises 28 to 34: what is told on paper, each held against a twin on which it is done. */
public final class PaperTest {
    private static final String BUSY = "link 2 1 3 span 3;link 1 2 4 span 4;link 3 4 20;"
        + "flow 0 1 left 90;flow 1 greedy;flow 1 0 liar left 99;flow 2 0 greedy;flow 2 off;";

    public static void main(String[] args) {
        whens();
        gaps();
        catching();
        afters();
        withouts();
        blinds();
        leasts();
        nothingElse();
        Check.end();
    }

    private static SharedSurplus busy(int ticks) {
        SharedSurplus x = Nets.of(BUSY);
        for (int n = 0; n < ticks; n++) {
            x.tick(1);
        }
        return x;
    }

    private static void whens() {
        Check c = new Check("28");
        SharedSurplus x = Nets.of("link 1 2 5 span 4;flow 0 left 3;flow 0 left 0;flow 0 off;flow 0 off left 0;");
        c.due("when(0)", x.when(0), 9);
        c.due("when(1)", x.when(1), 0);
        c.due("when(3)", x.when(3), 0);
        c.refused(x, "when(2)", 6, () -> x.when(2));
        c.refused(x, "when(4)", 2, () -> x.when(4));
        c.refused(x, "when(-1)", 2, () -> x.when(-1));
        x.tick(8);
        c.due("when(0)", x.when(0), 1);
        x.tick(1);
        c.due("when(0)", x.when(0), 0);
        // At the edge: 120 ticks are looked at, 121 are not.
        String slow = "link 1 9 60 span 30;flow 0 left 140;";
        int all = ticksUntil(Nets.of(slow));
        c.due("it takes long", all > 122, true);
        SharedSurplus y = Nets.of(slow);
        for (int n = 0; n < all - 121; n++) {
            y.tick(1);
        }
        c.refused(y, "when(0), 121 ticks ahead", 6, () -> y.when(0));
        y.tick(1);
        c.due("when(0), 120 ticks ahead", y.when(0), 120);
        c.due("status()", y.status(), 0);
    }

    private static int ticksUntil(SharedSurplus x) {
        for (int n = 0; n <= 1000; n++) {
            if (x.flow(0, 1) == 0 && x.flow(0, 6) == 0) {
                return n;
            }
            x.tick(1);
        }
        return -1;
    }

    private static void gaps() {
        Check c = new Check("29");
        SharedSurplus x = new SharedSurplus();
        c.due("closes(0) without flows", x.closes(0), 0);
        for (int start = 0; start < 40; start += 3) {
            for (int gap = 0; gap < 300; gap += 23) {
                SharedSurplus twin = busy(start);
                int due = -1;
                for (int n = 0; n <= 120 && due < 0; n++) {
                    due = twin.many(9) <= gap ? n : -1;
                    twin.tick(1);
                }
                SharedSurplus asked = busy(start);
                c.due("closes(" + gap + ") at " + start, asked.closes(gap), due);
                c.due("status()", asked.status(), due < 0 ? 6 : 0);
            }
        }
        SharedSurplus y = busy(5);
        c.refused(y, "closes(-1)", 1, () -> y.closes(-1));
        c.due("closes(4000)", y.closes(4000), 0);
        c.due("closes(2147483647)", y.closes(Integer.MAX_VALUE), 0);
    }

    private static void catching() {
        Check c = new Check("30");
        SharedSurplus x = Nets.of("link 9 1 60 span 4;flow 0 liar;flow 0 off;");
        c.due("caught(0)", x.caught(0), 4);
        c.refused(x, "caught(1)", 6, () -> x.caught(1));
        c.refused(x, "caught(2)", 2, () -> x.caught(2));
        c.refused(x, "caught(-1)", 2, () -> x.caught(-1));
        x.tick(3);
        c.due("caught(0)", x.caught(0), 1);
        x.tick(1);
        c.due("caught(0)", x.caught(0), 0);
    }

    private static int told(SharedSurplus then, SharedSurplus now, int what) {
        int done = 0;
        int lost = 0;
        for (int f = 0; f < now.many(1); f++) {
            done += then.flow(f, 9) - now.flow(f, 9);
            lost += then.flow(f, 10) - now.flow(f, 10);
        }
        int row = 0;
        for (int l = 0; l < now.many(0); l++) {
            row = Math.max(row, then.link(l, 4));
        }
        return new int[] {then.many(8), then.many(9), done, lost, row}[what];
    }

    private static void afters() {
        Check c = new Check("31");
        for (int n : new int[] {0, 1, 2, 7, 30, 119, 120}) {
            SharedSurplus now = busy(6);
            SharedSurplus then = busy(6 + n);
            for (int what = 0; what <= 4; what++) {
                c.due("after(" + n + ", " + what + ")", now.after(n, what), told(then, now, what));
            }
        }
        SharedSurplus x = busy(6);
        c.due("something is lost", x.after(60, 3) > 0, true);
        c.refused(x, "after(-1, 0)", 1, () -> x.after(-1, 0));
        c.refused(x, "after(121, 0)", 1, () -> x.after(121, 0));
        c.refused(x, "after(5, 5)", 1, () -> x.after(5, 5));
        c.refused(x, "after(5, -1)", 1, () -> x.after(5, -1));
        SharedSurplus y = new SharedSurplus();
        int[] empty = {1000, 0, 0, 0, 0};
        for (int what = 0; what <= 4; what++) {
            c.due("after(9, " + what + ") of nothing", y.after(9, what), empty[what]);
        }
    }

    private static void withouts() {
        Check c = new Check("32");
        boolean matters = false;
        for (int other = 0; other < 5; other++) {
            for (int n : new int[] {1, 25, 120}) {
                SharedSurplus now = busy(6);
                SharedSurplus then = busy(6);
                if (other != 0) {
                    then.turn(other, false);
                }
                tickLong(then, n);
                c.due("without(0, " + other + ", " + n + ")", now.without(0, other, n), then.flow(0, 9) - now.flow(0, 9));
                matters |= now.without(0, other, n) != now.without(0, 0, n);
            }
        }
        c.due("it matters", matters, true);
        SharedSurplus x = busy(6);
        c.refused(x, "without(0, 1, 0)", 1, () -> x.without(0, 1, 0));
        c.refused(x, "without(0, 1, 121)", 1, () -> x.without(0, 1, 121));
        c.refused(x, "without(9, 9, -1)", 1, () -> x.without(9, 9, -1));
        c.refused(x, "without(5, 0, 1)", 2, () -> x.without(5, 0, 1));
        c.refused(x, "without(0, 5, 1)", 2, () -> x.without(0, 5, 1));
        c.refused(x, "without(-1, 0, 1)", 2, () -> x.without(-1, 0, 1));
        c.refused(x, "without(0, -1, 1)", 2, () -> x.without(0, -1, 1));
    }

    private static void tickLong(SharedSurplus x, int n) {
        for (int i = 0; i < n; i++) {
            x.tick(1);
        }
    }

    private static void blinds() {
        Check c = new Check("33");
        SharedSurplus x = Nets.of("link 9 1 60 span 30;flow 0;flow 0 left 1;");
        // Two of flow 0 are done in tick 3: 200 and 50, and then 10,000 by 250, 40; one of flow 1: 250.
        c.due("GAP, blind", x.blind(3, 1), 40);
        c.due("GAP, as it is", x.after(3, 1), 0);
        c.due("DONE", x.blind(3, 2), 3);
        c.due("LOST", x.blind(3, 3), 0);
        c.due("EVEN", x.blind(3, 0), 540L * 540 * 1000 / (2 * (290L * 290 + 250 * 250)));
        c.due("blind(0, 1)", x.blind(0, 1), 0);
        c.due("ROW", x.blind(1, 4), 0);
        SharedSurplus y = Nets.of("link 1 1 60 span 30;flow 0;flow 0;");
        c.due("ROW", y.blind(1, 4), 3);
        SharedSurplus deaf = Nets.of("link 9 1 60 span 30;flow 0 deaf;flow 0 left 1 deaf;");
        c.due("GAP of deaf ones", deaf.blind(3, 1), 40);
        SharedSurplus b = busy(6);
        for (int what = 0; what <= 4; what++) {
            c.due("blind(0, " + what + ")", b.blind(0, what), b.after(0, what));
        }
        c.refused(b, "blind(-1, 0)", 1, () -> b.blind(-1, 0));
        c.refused(b, "blind(121, 0)", 1, () -> b.blind(121, 0));
        c.refused(b, "blind(5, 5)", 1, () -> b.blind(5, 5));
        c.refused(b, "blind(5, -1)", 1, () -> b.blind(5, -1));
        c.due("blind(120, 2)", b.blind(120, 2) > 0, true);
        int before = b.after(50, 0);
        b.blind(50, 0);
        c.due("none is blind behind it", b.after(50, 0), before);
    }

    private static void leasts() {
        Check c = new Check("34");
        SharedSurplus x = Nets.of("link 1 1 1;flow 0;");
        c.due("least(0, 1, 1)", x.least(0, 1, 1), 10);
        c.refused(x, "least(0, 0, 1)", 6, () -> x.least(0, 0, 1));
        // Twelve come in tick 1: ROOM 20; link 0 of ROOM 60 and RATE 1 loses none in one tick.
        SharedSurplus y = Nets.of("link 1 1 1;flow 0;flow 0;flow 0;flow 0;flow 0;flow 0;");
        c.due("least(0, 1, 1)", y.least(0, 1, 1), 20);
        c.due("least(0, 1, 10)", y.least(0, 1, 10), 20);
        // The three flows' six come to link 1, ROOM 4, as fast as link 0 lets them: RATE 1 of link 0 is slow enough,
        // RATE 6 of link 1 is of no use.
        SharedSurplus z = Nets.of("link 6 1 60;link 1 1 4;flow 0 1;flow 0 1;flow 0 1;");
        c.due("LOST as it is", z.after(4, 3) > 0, true);
        c.due("least(0, 0, 10)", z.least(0, 0, 10), 1);
        c.due("least(1, 1, 10)", z.least(1, 1, 10), 10);
        c.refused(z, "least(1, 0, 10)", 6, () -> z.least(1, 0, 10));
        // ROW 2 of ROOM 2 and two more come a tick: RATE 2 keeps pace, RATE 1 does not.
        SharedSurplus w = Nets.of("link 9 1 60;link 1 1 2;flow 0 1;flow 0;flow 1;");
        c.due("least(1, 0, 2)", w.least(1, 0, 2), leastRate(w, 2));
        c.refused(w, "least(0, 2, 5)", 1, () -> w.least(0, 2, 5));
        c.refused(w, "least(0, -1, 5)", 1, () -> w.least(0, -1, 5));
        c.refused(w, "least(0, 0, 0)", 1, () -> w.least(0, 0, 0));
        c.refused(w, "least(9, 0, 11)", 1, () -> w.least(9, 0, 11));
        c.refused(w, "least(2, 0, 5)", 2, () -> w.least(2, 0, 5));
        c.refused(w, "least(-1, 1, 5)", 2, () -> w.least(-1, 1, 5));
    }

    /** By trying each rate of link 1 for real, from a mark. */
    private static int leastRate(SharedSurplus x, int n) {
        for (int rate = 1; rate <= 9; rate++) {
            x.mark();
            x.set(1, 0, rate);
            x.tick(n);
            boolean lost = false;
            for (int i = 0; i < x.many(7); i++) {
                lost |= x.event(i, 0) == 0;
            }
            x.back();
            if (!lost) {
                return rate;
            }
        }
        return -1;
    }

    private static void nothingElse() {
        Check c = new Check("28 to 34");
        SharedSurplus x = busy(13);
        IntSupplier[] calls = {() -> x.when(0), () -> x.closes(50), () -> x.caught(2), () -> x.after(90, 0),
            () -> x.without(0, 1, 90), () -> x.blind(90, 1), () -> x.least(1, 0, 10), () -> x.least(1, 1, 10),
            () -> x.best(0), () -> x.neck(0)};
        String before = Snapshot.of(x);
        for (int i = 0; i < calls.length; i++) {
            calls[i].getAsInt();
            c.due("call " + i + " leaves all as it is", Snapshot.of(x).equals(before), true);
        }
    }
}

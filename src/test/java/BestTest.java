/** Promises 26 and 27: how fair it could be at best, and which link holds. */
public final class BestTest {
    public static void main(String[] args) {
        Check c = new Check("26 and 27");
        SharedSurplus x = Nets.of("link 5 1 9;link 2 1 9;link 1 1 9;flow 0 1;flow 0;flow 1 2;flow 2;flow 2 off;");
        // Link 2: 1,000 by 2 is least; then link 1: 1,500 by 1; then link 0: 3,500.
        due(c, x, new int[] {1500, 3500, 500, 500}, new int[] {1, 0, 2, 2});
        c.due("best(4), which is off", x.best(4), 0);
        c.refused(x, "neck(4)", 5, () -> x.neck(4));
        c.refused(x, "best(5)", 2, () -> x.best(5));
        c.refused(x, "best(-1)", 2, () -> x.best(-1));
        c.refused(x, "neck(5)", 2, () -> x.neck(5));
        c.refused(x, "neck(-1)", 2, () -> x.neck(-1));
        x.turn(4, true);
        // 1,000 by 3 is cut; what is left of link 1 is 2,000 less 333.
        due(c, x, new int[] {1667, 3333, 333, 333, 333}, new int[] {1, 0, 2, 2, 2});
        x.set(2, 0, 9);
        x.turn(3, false);
        x.turn(4, false);
        due(c, x, new int[] {1000, 4000, 1000}, new int[] {1, 0, 1});
        SharedSurplus y = Nets.of("link 4 1 9;link 2 1 9;link 2 1 9;flow 0 1 2;flow 0;flow 2;flow 1;");
        // Of several links that are as tight, the first.
        due(c, y, new int[] {1000, 3000, 1000, 1000}, new int[] {1, 0, 2, 1});
        Check.end();
    }

    private static void due(Check c, SharedSurplus x, int[] rates, int[] necks) {
        for (int f = 0; f < rates.length; f++) {
            c.due("best(" + f + ")", x.best(f), rates[f]);
            c.due("neck(" + f + ")", x.neck(f), necks[f]);
            c.due("status()", x.status(), 0);
        }
    }
}

/** All that can be seen of an object, now and later: what it holds unseen shows in what comes of it. It is used up by that. */
final class Future {
    private static final int BLANKS = 0x20202020;

    private Future() {
    }

    static String of(SharedSurplus x) {
        StringBuilder all = new StringBuilder();
        all.append(x.fault(0)).append(' ').append(x.fault(1));
        addNet(all, x);
        for (int marks = x.many(3); marks > 0; marks--) {
            all.append(" back ").append(x.back());
            addNet(all, x);
        }
        addTape(all, x);
        return all.toString();
    }

    private static void addNet(StringBuilder all, SharedSurplus x) {
        all.append(" net ").append(Snapshot.ofNet(x));
        for (int n = 0; n < 6; n++) {
            x.tick(n < 5 ? 1 : 13);
            all.append(" then ").append(Snapshot.ofNet(x));
        }
    }

    /** The tape shows only as it is loaded. */
    private static void addTape(StringBuilder all, SharedSurplus x) {
        int length = x.feed(BLANKS, BLANKS, BLANKS, BLANKS, BLANKS);
        all.append(" tape ").append(length).append(' ').append(x.load(length < 0 ? 600 : length));
        all.append(' ').append(x.fault(0)).append(' ').append(x.fault(1)).append(' ').append(Snapshot.ofNet(x));
    }
}

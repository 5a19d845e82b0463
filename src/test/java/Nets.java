/** Puts texts on the tape of an object. */
final class Nets {
    private Nets() {
    }

    static SharedSurplus of(String text) {
        SharedSurplus x = new SharedSurplus();
        if (load(x, text) < 0) {
            throw new IllegalStateException("fault " + x.fault(0) + " at " + x.fault(1) + " in " + text);
        }
        return x;
    }

    /** A net behind some calls. */
    static SharedSurplus run(String text, String... calls) {
        return Calls.all(of(text), calls);
    }

    /**
     * Tick 4 of three flows of which one each came: PLUS 40, PARTS 100 each. One more each is to be sent, with TURN 2, 3 and 4:
     * shares of 13, 20 and 7 in ticks 5, 6 and 7, and WINDOWS of 213, 220 and 207 in ticks 7, 8 and 9.
     */
    static SharedSurplus parted(String... calls) {
        SharedSurplus x = run("link 1 1 9 span 4;flow 0 left 1;flow 0 left 1;flow 0 left 1;", "tick(4)", "more(0, 1)", "more(1, 1)", "more(2, 1)");
        return Calls.all(x, calls);
    }

    /**
     * Three links, five flows (number 4 is off), packets everywhere, one of them lost, flows that are caught, a mark, a told
     * fault and twenty bytes on the tape: much that a call could change.
     */
    static SharedSurplus lived() {
        SharedSurplus x = of("link 2 1 4 span 9;link 2 1 4 span 5;link 3 4 20;"
            + "flow 0 1 left 90;flow 1 greedy;flow 1 0 liar left 99;flow 2 0 greedy;flow 2 off;");
        Calls.all(x, "tick(10)", "mark()", "set(1, 0, 3)", "tick(7)");
        load(x, "link 0 1 1;");
        feed(x, "link 4 3 2;flow 0;  ");
        return x;
    }

    static int load(SharedSurplus x, String text) {
        feed(x, text);
        return x.load(text.length());
    }

    static void feed(SharedSurplus x, String text) {
        for (int at = 0; at < text.length(); at += 20) {
            x.feed(four(text, at), four(text, at + 4), four(text, at + 8), four(text, at + 12), four(text, at + 16));
        }
    }

    private static int four(String text, int at) {
        int sum = 0;
        for (int i = at; i < at + 4; i++) {
            sum = sum << 8 | (i < text.length() ? text.charAt(i) & 255 : 0);
        }
        return sum;
    }
}

/** Puts texts on the tape of an object. */
final class Nets {
    private Nets() {
    }

    static SharedSurplus of(String text) {
        SharedSurplus x = new SharedSurplus();
        if (load(x, text) < 0) {
            throw new IllegalStateException("fault " + x.fault(0) + " at " + x.fault(1) + " in " + text);
        }
        return x;
    }

    static int load(SharedSurplus x, String text) {
        feed(x, text);
        return x.load(text.length());
    }

    static void feed(SharedSurplus x, String text) {
        for (int at = 0; at < text.length(); at += 20) {
            x.feed(four(text, at), four(text, at + 4), four(text, at + 8), four(text, at + 12), four(text, at + 16));
        }
    }

    private static int four(String text, int at) {
        int sum = 0;
        for (int i = at; i < at + 4; i++) {
            sum = sum << 8 | (i < text.length() ? text.charAt(i) & 255 : 0);
        }
        return sum;
    }
}

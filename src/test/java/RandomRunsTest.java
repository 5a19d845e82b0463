import java.util.Random;

/** All promises: long runs of calls, right and wrong ones, on the class and on the model side by side. */
public final class RandomRunsTest {
    private static final int RUNS = 1500;
    private static final int CALLS = 500;
    private static final String[] ODD = {"link", "flow", "span", "left", "deaf", "liar", "greedy", "off", ";", "0", "1",
        "5", "9", "10", "31", "60", "61", "12345", "x", "A", "\t", "linkx", " ", "\n", "\u00e9", "00001", "0003"};

    private final Random random;
    private final SharedSurplus x = new SharedSurplus();
    private final Model m = new Model();

    private RandomRunsTest(long seed) {
        random = new Random(seed);
    }

    public static void main(String[] args) {
        int wrong = 0;
        long[] heard = new long[10];
        long[] seen = new long[5];
        for (int seed = 0; seed < RUNS && wrong < 5; seed++) {
            wrong += new RandomRunsTest(seed).run(seed, heard, seen) ? 0 : 1;
        }
        for (int kind = 0; kind < seen.length; kind++) {
            if (seen[kind] == 0) {
                System.out.println("no event was of kind " + kind);
                wrong++;
            }
        }
        for (int s : new int[] {0, 1, 2, 3, 4, 5, 6, 9}) {
            if (heard[s] == 0) {
                System.out.println("no call had status " + s);
                wrong++;
            }
        }
        System.out.println(wrong == 0 ? "all runs are as the model's" : "there are runs that are not as the model's");
        if (wrong != 0) {
            System.exit(1);
        }
    }

    private boolean run(int seed, long[] heard, long[] seen) {
        loadSomething(false);
        for (int n = 0; n < CALLS; n++) {
            String call = step();
            heard[m.status()]++;
            if (call != null || x.status() != m.status()) {
                System.out.println("seed " + seed + ", call " + n + ": " + call + ", status " + x.status() + " for " + m.status());
                return false;
            }
            if (random.nextInt(10) == 0 && !same()) {
                System.out.println("seed " + seed + ", call " + n + ": the states differ");
                return false;
            }
            if (m.many(7) > 0) {
                seen[m.event(0, 0)]++;
            }
        }
        return same();
    }

    /** null if both answered alike. */
    private String step() {
        int roll = random.nextInt(100);
        if (roll < 35) {
            int many = random.nextInt(20) == 0 ? near(0, 61) : 1 + random.nextInt(random.nextInt(4) == 0 ? 60 : 6);
            return differ("tick " + many, x.tick(many), m.tick(many));
        }
        if (roll < 37) {
            return loadSomething(random.nextInt(2) == 0);
        }
        if (roll < 55) {
            return change();
        }
        if (roll < 70) {
            return onPaper();
        }
        return ask();
    }

    private String change() {
        int f = number();
        int l = number();
        switch (random.nextInt(8)) {
            case 0: {
                int what = near(0, 2);
                int much = random.nextInt(8) == 0 ? near(0, 61) : 2 + random.nextInt(what == 0 ? 8 : 28);
                return differ("set " + l + " " + what + " " + much, x.set(l, what, much), m.set(l, what, much));
            }
            case 1: {
                boolean on = random.nextInt(3) > 0;
                return differ("turn " + f + on, x.turn(f, on) ? 1 : 0, m.turn(f, on) ? 1 : 0);
            }
            case 2: {
                int n = random.nextInt(4) == 0 ? near(0, 10000) : 1 + random.nextInt(50);
                return differ("more " + f + " " + n, x.more(f, n), m.more(f, n));
            }
            case 3: {
                int kind = near(0, 3);
                return differ("kind " + f + " " + kind, x.kind(f, kind), m.kind(f, kind));
            }
            case 4: {
                int i = near(0, 4);
                return differ("detour " + f + " " + i + " " + l, x.detour(f, i, l), m.detour(f, i, l));
            }
            case 5:
            case 6:
                return differ("mark", x.mark(), m.mark());
            default:
                return differ("back", x.back(), m.back());
        }
    }

    private String onPaper() {
        int f = number();
        int n = random.nextInt(5) == 0 ? near(0, 121) : random.nextInt(60);
        int what = near(0, 4);
        switch (random.nextInt(7)) {
            case 0:
                return differ("when " + f, x.when(f), m.when(f));
            case 1: {
                int gap = near(0, 600);
                return differ("closes " + gap, x.closes(gap), m.closes(gap));
            }
            case 2:
                return differ("caught " + f, x.caught(f), m.caught(f));
            case 3:
                return differ("after " + n + " " + what, x.after(n, what), m.after(n, what));
            case 4: {
                int other = number();
                return differ("without " + f + " " + other + " " + n, x.without(f, other, n), m.without(f, other, n));
            }
            case 5:
                return differ("blind " + n + " " + what, x.blind(n, what), m.blind(n, what));
            default: {
                int which = near(0, 1);
                int ticks = near(1, 10);
                return differ("least " + f + " " + which + " " + ticks, x.least(f, which, ticks), m.least(f, which, ticks));
            }
        }
    }

    private String ask() {
        int a = number();
        int b = near(0, 11);
        int c = near(0, 6);
        switch (random.nextInt(14)) {
            case 0: return differ("many " + b, x.many(b), m.many(b));
            case 1: return differ("link " + a + " " + (b + c), x.link(a, b + c), m.link(a, b + c));
            case 2: return differ("flow " + a + " " + b, x.flow(a, b), m.flow(a, b));
            case 3: return differ("path " + a + " " + c, x.path(a, c), m.path(a, c));
            case 4: return differ("packet " + a + " " + b + " " + c, x.packet(a, b, c), m.packet(a, b, c));
            case 5: return differ("event " + 2 * b + " " + c, x.event(2 * b, c), m.event(2 * b, c));
            case 6: return differ("given " + a + " " + c, x.given(a, c), m.given(a, c));
            case 7: return differ("where " + a + " " + c, x.where(a, c), m.where(a, c));
            case 8: return differ("eldest " + a, x.eldest(a), m.eldest(a));
            case 9: return differ("past " + a + " " + 2 * b, x.past(a, 2 * b), m.past(a, 2 * b));
            case 10: return differ("top " + c, x.top(c), m.top(c));
            case 11: return differ("alike " + a + " " + c, x.alike(a, c), m.alike(a, c));
            case 12: return differ("best " + a, x.best(a), m.best(a));
            default: return differ("neck " + a, x.neck(a), m.neck(a));
        }
    }

    private static String differ(String call, int got, int want) {
        return got == want ? null : call + " answered " + got + ", the model " + want;
    }

    private int number() {
        int most = Math.max(m.many(0), m.many(1));
        return random.nextInt(25) == 0 ? near(0, most) : random.nextInt(Math.max(1, most));
    }

    /** Between the two, at times just outside, at times far away. */
    private int near(int least, int most) {
        switch (random.nextInt(40)) {
            case 0: return least - 1;
            case 1: return most + 1;
            case 2: return Integer.MIN_VALUE;
            case 3: return Integer.MAX_VALUE;
            case 4: return least;
            case 5: return most;
            default: return least + random.nextInt(most - least + 1);
        }
    }

    private String loadSomething(boolean spoilt) {
        String text = spoilt ? spoil(netText()) : netText();
        StringBuilder padded = new StringBuilder(text);
        while (padded.length() % 20 != 0) {
            padded.append((char) 0);
        }
        for (int at = 0; at < padded.length(); at += 20) {
            int[] five = new int[5];
            for (int i = 0; i < 20; i++) {
                five[i / 4] = five[i / 4] << 8 | padded.charAt(at + i);
            }
            String call = differ("feed", x.feed(five[0], five[1], five[2], five[3], five[4]), m.feed(five));
            if (call != null) {
                return call;
            }
        }
        int n = random.nextInt(30) == 0 ? near(0, padded.length()) : text.length();
        String call = differ("load " + n + " of " + text, x.load(n), m.load(n));
        return call != null ? call : differ("fault of " + text, x.fault(0) * 1000 + x.fault(1), m.fault(0) * 1000 + m.fault(1));
    }

    private String netText() {
        StringBuilder text = new StringBuilder();
        int links = 1 + random.nextInt(6);
        int flows = 1 + random.nextInt(6);
        int mostRate = random.nextBoolean() ? 3 : 9;
        int mostLag = random.nextBoolean() ? 2 : 9;
        int mostRoom = random.nextBoolean() ? 6 : 60;
        for (int i = 0; i < links; i++) {
            text.append("link ").append(1 + random.nextInt(mostRate)).append(' ').append(1 + random.nextInt(mostLag));
            text.append(' ').append(1 + random.nextInt(mostRoom));
            if (random.nextInt(3) > 0) {
                text.append(" span ").append(2 + random.nextInt(29));
            }
            text.append(random.nextBoolean() ? ";\n" : ";");
        }
        for (int f = 0; f < flows; f++) {
            text.append("flow");
            java.util.List<Integer> all = new java.util.ArrayList<>();
            for (int i = 0; i < links; i++) {
                all.add(i);
            }
            java.util.Collections.shuffle(all, random);
            for (int i = 0; i <= random.nextInt(Math.min(4, links)); i++) {
                text.append(' ').append(all.get(i));
            }
            if (random.nextInt(3) == 0) {
                text.append(" left ").append(random.nextInt(random.nextBoolean() ? 20 : 200));
            }
            if (random.nextInt(2) == 0) {
                text.append(' ').append(new String[] {"deaf", "liar", "greedy"}[random.nextInt(3)]);
            }
            if (random.nextInt(8) == 0) {
                text.append(" off");
            }
            text.append(';');
        }
        return text.toString();
    }

    private String spoil(String text) {
        StringBuilder spoilt = new StringBuilder(text);
        for (int n = random.nextInt(3); n >= 0; n--) {
            int at = random.nextInt(spoilt.length() + 1);
            if (random.nextInt(3) == 0 && at < spoilt.length()) {
                spoilt.deleteCharAt(at);
            } else {
                String odd = ODD[random.nextInt(ODD.length)];
                spoilt.insert(at, random.nextBoolean() ? " " + odd + " " : odd);
            }
        }
        return spoilt.length() > 600 ? spoilt.substring(0, 600) : spoilt.toString();
    }

    private boolean same() {
        String mine = "";
        int links = m.many(0);
        int flows = m.many(1);
        for (int what = 0; what <= 9; what++) {
            if (x.many(what) != m.many(what)) {
                mine = "many " + what;
            }
        }
        for (int i = 0; i < links; i++) {
            for (int what = 0; what <= 17; what++) {
                if (x.link(i, what) != m.link(i, what)) {
                    mine = "link " + i + " " + what;
                }
            }
            for (int p = 0; p <= m.link(i, 4); p++) {
                for (int what = 0; what <= 6; what++) {
                    if (x.packet(i, p, what) != m.packet(i, p, what)) {
                        mine = "packet " + i + " " + p + " " + what;
                    }
                }
            }
        }
        for (int f = 0; f < flows; f++) {
            for (int what = 0; what <= 11; what++) {
                if (x.flow(f, what) != m.flow(f, what)) {
                    mine = "flow " + f + " " + what;
                }
            }
            for (int i = 0; i < 20; i++) {
                if (x.past(f, i) != m.past(f, i)) {
                    mine = "past " + f + " " + i;
                }
            }
        }
        for (int i = 0; i < 24; i++) {
            for (int what = 0; what <= 3; what++) {
                if (x.event(i, what) != m.event(i, what)) {
                    mine = "event " + i + " " + what;
                }
            }
        }
        if (!mine.isEmpty()) {
            System.out.println(mine);
        }
        return mine.isEmpty();
    }
}

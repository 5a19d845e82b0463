import java.util.ArrayDeque;
import java.util.ArrayList;
import java.util.Deque;
import java.util.List;
import java.util.function.Predicate;
import java.util.regex.Matcher;
import java.util.regex.Pattern;

/** The document once more, written with the whole library and without any thrift, to compare answers with. */
final class Model {
    static final int NONE = -1;

    static final class P {
        int flow, sent, left, window, turn, feed = 1000, due;
        boolean lost;

        P copy() {
            P p = new P();
            p.flow = flow; p.sent = sent; p.left = left; p.window = window; p.turn = turn;
            p.feed = feed; p.due = due; p.lost = lost;
            return p;
        }

        long part() {
            return Math.max(1, 10_000L * turn / window);
        }
    }

    static final class L {
        int rate, lag, room, span = 10, low, fair, went, wentLatest;
        List<P> row = new ArrayList<>(), wire = new ArrayList<>();
        List<P> cameNow = new ArrayList<>();
        long plus, minus, weight = 1, count = 1, got, took;
        boolean[] caught = new boolean[6];

        L copy() {
            L l = new L();
            l.rate = rate; l.lag = lag; l.room = room; l.span = span; l.low = low; l.fair = fair;
            l.went = went; l.wentLatest = wentLatest;
            for (P p : row) l.row.add(p.copy());
            for (P p : wire) l.wire.add(p.copy());
            for (P p : cameNow) l.cameNow.add(p.copy());
            l.plus = plus; l.minus = minus; l.weight = weight; l.count = count; l.got = got; l.took = took;
            l.caught = caught.clone();
            return l;
        }

        int cameOf(int f) {
            return (int) cameNow.stream().filter(p -> p.flow == f).count();
        }
    }

    static final class F {
        List<Integer> path = new ArrayList<>();
        int left = 9999, kind, window = 200, flying, turn, sent, done, lost;
        boolean on = true;

        F copy() {
            F f = new F();
            f.path.addAll(path);
            f.left = left; f.kind = kind; f.window = window; f.flying = flying; f.turn = turn;
            f.sent = sent; f.done = done; f.lost = lost; f.on = on;
            return f;
        }
    }

    static final class World {
        List<L> links = new ArrayList<>();
        List<F> flows = new ArrayList<>();
        List<P> coming = new ArrayList<>();
        List<int[]> events = new ArrayList<>();
        List<int[]> past = new ArrayList<>();
        int tick, losses;
        boolean blind;

        World copy() {
            World w = new World();
            for (L l : links) w.links.add(l.copy());
            for (F f : flows) w.flows.add(f.copy());
            for (P p : coming) w.coming.add(p.copy());
            w.events.addAll(events);
            w.past.addAll(past);
            w.tick = tick; w.losses = losses; w.blind = blind;
            return w;
        }

        int back(F f) {
            return f.path.stream().mapToInt(l -> links.get(l).lag).sum();
        }

        void event(int kind, int link, int flow) {
            events.add(0, new int[] {kind, tick, link, flow});
            if (events.size() > 24) events.remove(24);
        }

        void come(P p, int at) {
            L l = links.get(at);
            boolean refused = l.caught[p.flow] && l.cameOf(p.flow) >= l.fair;
            if (refused || l.row.size() >= l.room) {
                p.lost = true;
                losses++;
                event(0, at, p.flow);
                p.due = tick + back(flows.get(p.flow));
                coming.add(p);
            } else {
                l.row.add(p);
                l.cameNow.add(p.copy());
            }
        }

        static long[] gotTook(L l, P p) {
            return new long[] {Math.min(l.got + p.part(), l.weight), Math.min(l.took + 1, l.count)};
        }

        static int share(L l, P p) {
            long[] then = gotTook(l, p);
            long up = then[0] * l.plus / l.weight - l.got * l.plus / l.weight;
            long down = then[1] * l.minus / l.count - l.took * l.minus / l.count;
            return (int) (up - down);
        }

        void go() {
            tick++;
            List<P> due = new ArrayList<>();
            for (P p : coming) if (p.due == tick) due.add(p);
            coming.removeAll(due);
            for (P p : due) comesBack(p);
            for (L l : links) {
                List<P> off = new ArrayList<>();
                for (P p : l.wire) if (p.due == tick) off.add(p);
                l.wire.removeAll(off);
                for (P p : off) {
                    F f = flows.get(p.flow);
                    if (p.left == f.path.size()) {
                        p.due = tick + back(f);
                        coming.add(p);
                    } else {
                        come(p, f.path.get(p.left));
                    }
                }
            }
            for (int i = 0; i < flows.size(); i++) sends(i);
            for (L l : links) {
                for (int n = 0; n < l.rate && !l.row.isEmpty(); n++) {
                    P p = l.row.remove(0);
                    int share = share(l, p);
                    long[] then = gotTook(l, p);
                    l.got = then[0];
                    l.took = then[1];
                    if (share < p.feed) p.feed = share;
                    p.left++;
                    p.due = tick + l.lag;
                    l.wire.add(p);
                    l.went++;
                }
                if (l.row.size() < l.low) l.low = l.row.size();
            }
            for (int i = 0; i < links.size(); i++) if (tick % links.get(i).span == 0) spanEnds(i);
            past.add(0, flows.stream().mapToInt(f -> f.window).toArray());
            if (past.size() > 20) past.remove(20);
        }

        void comesBack(P p) {
            F f = flows.get(p.flow);
            f.flying--;
            f.turn = tick - p.sent;
            if (p.lost) {
                f.lost++;
                f.left = Math.min(9999, f.left + 1);
                f.window = f.window / 2;
            } else {
                f.done++;
                int feed = blind ? 10_000 / f.window : p.feed;
                if (f.kind != 1 || feed > 0) f.window += feed;
            }
            if (f.window < 100) f.window = 100;
            if (f.window > 4000) f.window = 4000;
            if (f.left == 0 && f.flying == 0) event(4, NONE, p.flow);
        }

        void sends(int i) {
            F f = flows.get(i);
            int n = 0;
            while (f.on && f.left > 0 && n < 2 && (f.flying + 1) * 100 <= f.window * (f.kind == 3 ? 2 : 1)) {
                n++;
                P p = new P();
                p.flow = i;
                p.sent = tick;
                p.window = f.window;
                p.turn = f.turn * (f.kind == 2 ? 3 : 1);
                f.left--;
                f.sent++;
                f.flying++;
                if (f.left == 0) event(3, NONE, i);
                come(p, f.path.get(0));
            }
        }

        void spanEnds(int i) {
            L l = links.get(i);
            int came = l.cameNow.size();
            long spare = (long) l.rate * l.span - came;
            long phi = 40 * spare - 23L * l.low;
            long shuffle = 10L * came - (phi < 0 ? -phi : phi);
            if (shuffle < 0) shuffle = 0;
            l.plus = phi > 0 ? shuffle + phi : shuffle;
            l.minus = phi < 0 ? shuffle - phi : shuffle;
            l.weight = Math.max(1, l.cameNow.stream().mapToLong(P::part).sum());
            l.count = Math.max(1, came);
            l.got = 0;
            l.took = 0;
            int who = 0;
            for (int f = 0; f < flows.size(); f++) {
                int of = l.cameOf(f);
                boolean now = false;
                if (of > 0) {
                    who++;
                    P latest = null;
                    for (P p : l.cameNow) if (p.flow == f) latest = p;
                    int claim = latest.window * l.span / (100 * latest.turn);
                    now = of > claim * 3 / 2 + 2;
                }
                if (now && !l.caught[f]) event(1, i, f);
                if (!now && l.caught[f]) event(2, i, f);
                l.caught[f] = now;
            }
            l.fair = Math.max(1, l.rate * l.span / Math.max(1, who));
            l.cameNow.clear();
            l.low = l.room;
            l.wentLatest = l.went;
            l.went = 0;
        }

        int even() {
            long n = 0, sum = 0, squares = 0;
            for (F f : flows) if (f.on) {
                n++;
                sum += f.window;
                squares += (long) f.window * f.window;
            }
            return n == 0 ? 1000 : (int) (sum * sum * 1000 / (n * squares));
        }

        int gap() {
            int[] on = flows.stream().filter(f -> f.on).mapToInt(f -> f.window).sorted().toArray();
            return on.length == 0 ? 0 : on[on.length - 1] - on[0];
        }

        boolean isCaught(int f) {
            return links.stream().anyMatch(l -> l.caught[f]);
        }

        /** For each flow the rate and the neck. */
        int[][] best() {
            int[][] found = new int[flows.size()][];
            for (int i = 0; i < found.length; i++) if (!flows.get(i).on) found[i] = new int[] {0, NONE};
            while (true) {
                int least = Integer.MAX_VALUE, at = NONE;
                for (int l = 0; l < links.size(); l++) {
                    int rest = 1000 * links.get(l).rate, grow = 0;
                    for (int f = 0; f < found.length; f++) if (flows.get(f).path.contains(l)) {
                        if (found[f] == null) grow++;
                        else rest -= found[f][0];
                    }
                    if (grow > 0 && rest / grow < least) {
                        least = rest / grow;
                        at = l;
                    }
                }
                if (at == NONE) return found;
                for (int f = 0; f < found.length; f++) {
                    if (found[f] == null && flows.get(f).path.contains(at)) found[f] = new int[] {least, at};
                }
            }
        }
    }

    private World w = new World();
    private final Deque<World> marks = new ArrayDeque<>();
    private final StringBuilder tape = new StringBuilder();
    private int status, fault = NONE, place = NONE;

    private int say(int value) {
        status = 0;
        return value;
    }

    private int no(int why) {
        status = why;
        return NONE;
    }

    private boolean noFlow(int f) {
        return f < 0 || f >= w.flows.size();
    }

    private boolean noLink(int l) {
        return l < 0 || l >= w.links.size();
    }

    private static boolean out(int n, int least, int most) {
        return n < least || n > most;
    }

    int status() {
        return status;
    }

    int feed(int... ints) {
        if (tape.length() + 20 > 600) return NONE;
        for (int i : ints) for (int b = 3; b >= 0; b--) tape.append((char) (i >>> (8 * b) & 255));
        return tape.length();
    }

    int load(int n) {
        if (n < 0 || n > tape.length()) return no(1);
        String text = tape.substring(0, n);
        tape.setLength(0);
        World read = new World();
        int[] wrong = read(text, read);
        fault = wrong == null ? 0 : wrong[0];
        place = wrong == null ? NONE : wrong[1];
        if (wrong != null) return no(9);
        w = read;
        return say(w.flows.size());
    }

    private static final Pattern TOKEN = Pattern.compile("[a-z]+|[0-9]+|;");

    /** null, or the fault and its place: a machine of states over the tokens. */
    @SuppressWarnings("fallthrough")
    private static int[] read(String text, World into) {
        String state = "line";
        L l = null;
        F f = null;
        boolean left = false;
        int at = 0;
        while (true) {
            while (at < text.length() && (text.charAt(at) == ' ' || text.charAt(at) == '\n')) at++;
            if (at == text.length()) break;
            Matcher m = TOKEN.matcher(text).region(at, text.length());
            if (!m.lookingAt()) return new int[] {1, at};
            String token = m.group();
            boolean number = Character.isDigit(token.charAt(0));
            if (number && token.length() > 4) return new int[] {1, at};
            int value = number ? Integer.parseInt(token) : NONE;
            int bad = 0;
            switch (state) {
                case "line":
                    if (token.equals("link")) {
                        if (into.links.size() == 6) bad = 6;
                        into.links.add(l = new L());
                        state = "rate";
                    } else if (token.equals("flow")) {
                        if (into.flows.size() == 6) bad = 6;
                        into.flows.add(f = new F());
                        left = false;
                        state = "path";
                    } else bad = 2;
                    break;
                case "rate":
                    bad = !number ? 2 : out(value, 1, 9) ? 4 : 0;
                    l.rate = value;
                    state = "lag";
                    break;
                case "lag":
                    bad = !number ? 2 : out(value, 1, 9) ? 4 : 0;
                    l.lag = value;
                    state = "room";
                    break;
                case "room":
                    bad = !number ? 2 : out(value, 1, 60) ? 4 : 0;
                    l.room = l.low = value;
                    state = "span?";
                    break;
                case "span?":
                    if (token.equals("span")) state = "span";
                    else if (token.equals(";")) state = "line";
                    else bad = 2;
                    break;
                case "span":
                    bad = !number ? 2 : out(value, 2, 30) ? 4 : 0;
                    l.span = value;
                    state = ";";
                    break;
                case ";":
                    bad = token.equals(";") ? 0 : 2;
                    state = "line";
                    break;
                case "path":
                case "path?":
                    if (number) {
                        bad = value >= into.links.size() ? 3 : f.path.contains(value) ? 4 : f.path.size() == 4 ? 6 : 0;
                        f.path.add(value);
                        state = "path?";
                        break;
                    }
                    if (state.equals("path")) {
                        bad = 2;
                        break;
                    }
                    // falls to the marks
                case "marks":
                    state = "marks";
                    int kind = List.of("deaf", "liar", "greedy").indexOf(token) + 1;
                    if (kind > 0) {
                        bad = f.kind > 0 ? 5 : 0;
                        f.kind = kind;
                    } else if (token.equals("off")) {
                        bad = f.on ? 0 : 5;
                        f.on = false;
                    } else if (token.equals("left")) {
                        bad = left ? 5 : 0;
                        left = true;
                        state = "left";
                    } else if (token.equals(";")) {
                        f.turn = bad == 0 ? 2 * into.back(f) : 0;
                        state = "line";
                    } else bad = 2;
                    break;
                default:
                    bad = number ? 0 : 2;
                    f.left = value;
                    state = "marks";
            }
            if (bad > 0) return new int[] {bad, at};
            at = m.end();
        }
        return state.equals("line") ? null : new int[] {2, text.length()};
    }

    int fault(int what) {
        return what == 0 ? fault : what == 1 ? place : NONE;
    }

    int many(int what) {
        switch (what) {
            case 0: return say(w.links.size());
            case 1: return say(w.flows.size());
            case 2: return say(w.tick);
            case 3: return say(marks.size());
            case 4: return say(w.links.stream().mapToInt(l -> l.row.size()).sum());
            case 5: return say(w.links.stream().mapToInt(l -> l.wire.size()).sum());
            case 6: return say(w.coming.size());
            case 7: return say(w.events.size());
            case 8: return say(w.even());
            case 9: return say(w.gap());
            default: return no(1);
        }
    }

    int link(int link, int what) {
        if (out(what, 0, 17)) return no(1);
        if (noLink(link)) return no(2);
        L l = w.links.get(link);
        int set = 0;
        for (int f = 0; f < 6; f++) if (l.caught[f]) set |= 1 << f;
        long[] all = {l.rate, l.lag, l.room, l.span, l.row.size(), l.wire.size(), l.cameNow.size(), l.low, l.plus,
            l.minus, l.weight, l.count, l.got, l.took, set, l.fair, l.went, l.wentLatest};
        return say((int) all[what]);
    }

    int flow(int flow, int what) {
        if (out(what, 0, 11)) return no(1);
        if (noFlow(flow)) return no(2);
        F f = w.flows.get(flow);
        int set = 0;
        for (int l = 0; l < w.links.size(); l++) if (w.links.get(l).caught[flow]) set |= 1 << l;
        int[] all = {f.path.size(), f.left, f.kind, f.on ? 1 : 0, w.back(f), f.window, f.flying, f.turn, f.sent,
            f.done, f.lost, set};
        return say(all[what]);
    }

    int path(int flow, int i) {
        if (i < 0) return no(1);
        if (noFlow(flow)) return no(2);
        List<Integer> path = w.flows.get(flow).path;
        return i < path.size() ? say(path.get(i)) : no(5);
    }

    int packet(int link, int i, int what) {
        if (i < 0 || out(what, 0, 6)) return no(1);
        if (noLink(link)) return no(2);
        L l = w.links.get(link);
        if (i >= l.row.size()) return no(5);
        P p = l.row.get(i);
        return say(new int[] {p.flow, p.sent, p.left, p.window, p.turn, p.feed, World.share(l, p)}[what]);
    }

    int event(int i, int what) {
        if (out(i, 0, 23) || out(what, 0, 3)) return no(1);
        return i < w.events.size() ? say(w.events.get(i)[what]) : no(5);
    }

    int given(int link, int what) {
        if (out(what, 0, 1)) return no(1);
        if (noLink(link)) return no(2);
        L l = w.links.get(link);
        return say((int) (what == 0 ? l.got * l.plus / l.weight : l.took * l.minus / l.count));
    }

    private static int count(List<P> list, Predicate<P> which) {
        return (int) list.stream().filter(which).count();
    }

    int where(int flow, int what) {
        if (out(what, 0, 3)) return no(1);
        if (noFlow(flow)) return no(2);
        Predicate<P> its = p -> p.flow == flow;
        if (what == 0) return say(w.links.stream().mapToInt(l -> count(l.row, its)).sum());
        if (what == 1) return say(w.links.stream().mapToInt(l -> count(l.wire, its)).sum());
        return say(count(w.coming, what == 2 ? its : its.and(p -> p.lost)));
    }

    int eldest(int flow) {
        if (noFlow(flow)) return no(2);
        List<P> all = new ArrayList<>(w.coming);
        for (L l : w.links) {
            all.addAll(l.row);
            all.addAll(l.wire);
        }
        int[] sent = all.stream().filter(p -> p.flow == flow).mapToInt(p -> p.sent).sorted().toArray();
        return sent.length == 0 ? no(5) : say(sent[0]);
    }

    int past(int flow, int i) {
        if (out(i, 0, 19)) return no(1);
        if (noFlow(flow)) return no(2);
        return i < w.past.size() ? say(w.past.get(i)[flow]) : no(5);
    }

    int top(int what) {
        if (out(what, 0, 2)) return no(1);
        if (w.flows.isEmpty()) return no(5);
        int[] all = w.flows.stream().mapToInt(f -> what == 0 ? f.window : what == 1 ? f.done : f.lost).toArray();
        int at = 0;
        for (int i = 0; i < all.length; i++) if (all[i] > all[at]) at = i;
        return say(at);
    }

    int alike(int flow, int other) {
        if (noFlow(flow) || noFlow(other)) return no(2);
        List<Integer> one = w.flows.get(flow).path;
        List<Integer> two = new ArrayList<>(w.flows.get(other).path);
        if (one.equals(two)) return say(2);
        java.util.Collections.reverse(two);
        return say(one.equals(two) ? 1 : 0);
    }

    int set(int link, int what, int much) {
        if (out(what, 0, 2)) return no(1);
        if (what == 0 && out(much, 1, 9) || what == 1 && out(much, 1, 60) || what == 2 && out(much, 2, 30)) return no(1);
        if (noLink(link)) return no(2);
        L l = w.links.get(link);
        int was = what == 0 ? l.rate : what == 1 ? l.room : l.span;
        if (was == much) return no(4);
        if (what == 0) l.rate = much;
        if (what == 1) l.room = much;
        if (what == 2) l.span = much;
        return say(was);
    }

    boolean turn(int flow, boolean on) {
        if (noFlow(flow)) return no(2) != NONE;
        if (w.flows.get(flow).on == on) return no(4) != NONE;
        w.flows.get(flow).on = on;
        return say(1) == 1;
    }

    int more(int flow, int n) {
        if (out(n, 1, 9999)) return no(1);
        if (noFlow(flow)) return no(2);
        if (w.flows.get(flow).left + n > 9999) return no(3);
        return say(w.flows.get(flow).left += n);
    }

    int kind(int flow, int kind) {
        if (out(kind, 0, 3)) return no(1);
        if (noFlow(flow)) return no(2);
        int was = w.flows.get(flow).kind;
        if (was == kind) return no(4);
        w.flows.get(flow).kind = kind;
        return say(was);
    }

    int detour(int flow, int i, int link) {
        if (i < 0) return no(1);
        if (noFlow(flow) || noLink(link)) return no(2);
        List<Integer> path = w.flows.get(flow).path;
        if (path.contains(link)) return no(4);
        if (i >= path.size()) return no(5);
        return say(path.set(i, link));
    }

    int tick(int many) {
        if (out(many, 1, 60)) return no(1);
        for (int n = 0; n < many; n++) w.go();
        return say(w.tick);
    }

    int mark() {
        if (marks.size() == 3) return no(3);
        marks.push(w.copy());
        return say(marks.size());
    }

    int back() {
        if (marks.isEmpty()) return no(5);
        w = marks.pop();
        return say(marks.size());
    }

    int best(int flow) {
        return noFlow(flow) ? no(2) : say(w.best()[flow][0]);
    }

    int neck(int flow) {
        if (noFlow(flow)) return no(2);
        return w.flows.get(flow).on ? say(w.best()[flow][1]) : no(5);
    }

    private int until(Predicate<World> it) {
        World v = w.copy();
        for (int n = 0; n <= 120; n++) {
            if (it.test(v)) return say(n);
            v.go();
        }
        return no(6);
    }

    int when(int flow) {
        return noFlow(flow) ? no(2) : until(v -> v.flows.get(flow).left == 0 && v.flows.get(flow).flying == 0);
    }

    int closes(int gap) {
        return gap < 0 ? no(1) : until(v -> v.gap() <= gap);
    }

    int caught(int flow) {
        return noFlow(flow) ? no(2) : until(v -> v.isCaught(flow));
    }

    private int foretold(World v, int n, int what) {
        for (int i = 0; i < n; i++) v.go();
        switch (what) {
            case 0: return v.even();
            case 1: return v.gap();
            case 2: return v.flows.stream().mapToInt(f -> f.done).sum() - w.flows.stream().mapToInt(f -> f.done).sum();
            case 3: return v.flows.stream().mapToInt(f -> f.lost).sum() - w.flows.stream().mapToInt(f -> f.lost).sum();
            default: return v.links.stream().mapToInt(l -> l.row.size()).max().orElse(0);
        }
    }

    int after(int n, int what) {
        return out(n, 0, 120) || out(what, 0, 4) ? no(1) : say(foretold(w.copy(), n, what));
    }

    int without(int flow, int other, int n) {
        if (out(n, 1, 120)) return no(1);
        if (noFlow(flow) || noFlow(other)) return no(2);
        World v = w.copy();
        if (flow != other) v.flows.get(other).on = false;
        for (int i = 0; i < n; i++) v.go();
        return say(v.flows.get(flow).done - w.flows.get(flow).done);
    }

    int blind(int n, int what) {
        if (out(n, 0, 120) || out(what, 0, 4)) return no(1);
        World v = w.copy();
        v.blind = true;
        return say(foretold(v, n, what));
    }

    int least(int link, int what, int n) {
        if (out(what, 0, 1) || out(n, 1, 10)) return no(1);
        if (noLink(link)) return no(2);
        for (int much : what == 0 ? new int[] {1, 2, 3, 4, 5, 6, 7, 8, 9} : new int[] {10, 20, 30, 40, 50, 60}) {
            World v = w.copy();
            if (what == 0) v.links.get(link).rate = much;
            else v.links.get(link).room = much;
            for (int i = 0; i < n; i++) v.go();
            if (v.losses == w.losses) return say(much);
        }
        return no(6);
    }
}

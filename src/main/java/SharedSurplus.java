import java.util.Arrays;

/**
 * A transport whose packets tell window and turn, and whose links share out what they have to
 * spare, packet by packet. DOC.md, sections 2 to 6, is what every number here comes from.
 */
public final class SharedSurplus {
    public static final int NONE = -1;

    private static final int MOST_LINKS = 6;
    private static final int MOST_FLOWS = 6;
    private static final int LONGEST_PATH = 4;
    private static final int MOST_BYTES = 600;
    private static final int BYTES_A_FEED = 20;
    private static final int MOST_DIGITS = 4;
    private static final int MOST_MARKS = 3;
    private static final int MOST_EVENTS = 24;
    private static final int MOST_PAST = 20;
    private static final int MOST_TICKS = 60;
    private static final int PAPER_TICKS = 120;
    private static final int LEAST_TICKS = 10;

    private static final int MOST_RATE = 9;
    private static final int MOST_LAG = 9;
    private static final int MOST_ROOM = 60;
    private static final int LEAST_SPAN = 2;
    private static final int MOST_SPAN = 30;
    private static final int USUAL_SPAN = 10;
    private static final int ROOM_STEP = 10;

    private static final int MOST_LEFT = 9999;
    private static final int FIRST_WINDOW = 200;
    private static final int LEAST_WINDOW = 100;
    private static final int MOST_WINDOW = 4000;
    private static final int FIRST_FEED = 1000;
    private static final int SENT_A_TICK = 2;
    // A greedy flow flies at most 2 * 4,000 / 100 packets, and no flow flies more.
    private static final int MOST_PACKETS = MOST_FLOWS * 2 * MOST_WINDOW / 100;

    private static final int HONEST = 0;
    private static final int DEAF = 1;
    private static final int LIAR = 2;
    private static final int GREEDY = 3;

    private static final int FINE = 0;
    private static final int BAD_NUMBER = 1;
    private static final int NO_SUCH = 2;
    private static final int TOO_MANY = 3;
    private static final int SO_ALREADY = 4;
    private static final int NOTHING = 5;
    private static final int NEVER = 6;
    private static final int FAULTY = 9;

    private static final int SET_RATE = 0;
    private static final int SET_ROOM = 1;
    private static final int SET_SPAN = 2;

    private static final int GOAL_THROUGH = 0;
    private static final int GOAL_CLOSE = 1;
    private static final int GOAL_CAUGHT = 2;

    private static final int EVENT_LOST = 0;
    private static final int EVENT_CAUGHT = 1;
    private static final int EVENT_FREED = 2;
    private static final int EVENT_SENT_ALL = 3;
    private static final int EVENT_ALL_BACK = 4;

    private final byte[] tape;
    private int taped;
    private int latestStatus;
    private int faultKind;
    private int faultPlace;
    private Net net;
    // Texts are read into it and foretelling runs on it, so that the net itself stays as it is.
    private Net paper;
    private final Net[] marks;
    private int marked;
    private final TextReader reader;
    private final BestRates bestRates;

    public SharedSurplus() {
        tape = new byte[MOST_BYTES];
        faultKind = NONE;
        faultPlace = NONE;
        net = new Net();
        paper = new Net();
        marks = new Net[MOST_MARKS];
        for (int i = 0; i < marks.length; i++) {
            marks[i] = new Net();
        }
        reader = new TextReader();
        bestRates = new BestRates();
    }

    public int status() {
        return latestStatus;
    }

    public int feed(int a, int b, int c, int d, int e) {
        if (taped + BYTES_A_FEED > MOST_BYTES) {
            return NONE;
        }
        putBytes(a);
        putBytes(b);
        putBytes(c);
        putBytes(d);
        putBytes(e);
        return taped;
    }

    public int load(int n) {
        if (n < 0 || n > taped) {
            return refuse(BAD_NUMBER);
        }
        boolean whole = reader.readNet(tape, n, paper);
        taped = 0;
        faultKind = reader.fault;
        faultPlace = reader.place;
        if (!whole) {
            return refuse(FAULTY);
        }
        Net old = net;
        net = paper;
        paper = old;
        return answer(net.flowCount);
    }

    public int fault(int what) {
        if (what == 0) {
            return faultKind;
        }
        return what == 1 ? faultPlace : NONE;
    }

    // ---- what there is

    public int many(int what) {
        switch (what) {
            case 0:
                return answer(net.linkCount);
            case 1:
                return answer(net.flowCount);
            case 2:
                return answer(net.now);
            case 3:
                return answer(marked);
            case 4:
                return answer(net.standing());
            case 5:
                return answer(net.wired());
            case 6:
                return answer(net.returning.size);
            case 7:
                return answer(net.events.kept);
            case 8:
                return answer(net.evenness());
            case 9:
                return answer(net.windowGap());
            default:
                return refuse(BAD_NUMBER);
        }
    }

    public int link(int link, int what) {
        if (what < 0 || what > 17) {
            return refuse(BAD_NUMBER);
        }
        Link asked = net.linkAt(link);
        if (asked == null) {
            return refuse(NO_SUCH);
        }
        return answer(asked.tell(what));
    }

    public int flow(int flow, int what) {
        if (what < 0 || what > 11) {
            return refuse(BAD_NUMBER);
        }
        Flow asked = net.flowAt(flow);
        if (asked == null) {
            return refuse(NO_SUCH);
        }
        return answer(what == 11 ? net.linksThatCaught(flow) : asked.tell(what));
    }

    public int path(int flow, int i) {
        if (i < 0) {
            return refuse(BAD_NUMBER);
        }
        Flow asked = net.flowAt(flow);
        if (asked == null) {
            return refuse(NO_SUCH);
        }
        if (i >= asked.length) {
            return refuse(NOTHING);
        }
        return answer(asked.pathAt(i));
    }

    public int packet(int link, int i, int what) {
        if (i < 0 || what < 0 || what > 6) {
            return refuse(BAD_NUMBER);
        }
        Link asked = net.linkAt(link);
        if (asked == null) {
            return refuse(NO_SUCH);
        }
        Packet found = asked.row.packetAt(i);
        if (found == null) {
            return refuse(NOTHING);
        }
        return answer(what == 6 ? asked.surplus.shareOf(found.part) : found.tell(what));
    }

    public int event(int i, int what) {
        if (i < 0 || i >= MOST_EVENTS || what < 0 || what > 3) {
            return refuse(BAD_NUMBER);
        }
        if (i >= net.events.kept) {
            return refuse(NOTHING);
        }
        return answer(net.events.tell(i, what));
    }

    public int given(int link, int what) {
        if (what < 0 || what > 1) {
            return refuse(BAD_NUMBER);
        }
        Link asked = net.linkAt(link);
        if (asked == null) {
            return refuse(NO_SUCH);
        }
        Surplus surplus = asked.surplus;
        return answer((int) (what == 0 ? surplus.plusFor(surplus.got) : surplus.minusFor(surplus.took)));
    }

    public int where(int flow, int what) {
        if (what < 0 || what > 3) {
            return refuse(BAD_NUMBER);
        }
        if (net.flowAt(flow) == null) {
            return refuse(NO_SUCH);
        }
        switch (what) {
            case 0:
                return answer(net.standingOf(flow));
            case 1:
                return answer(net.wiredOf(flow));
            case 2:
                return answer(net.returning.countOf(flow));
            default:
                return answer(net.returning.lostOf(flow));
        }
    }

    public int eldest(int flow) {
        if (net.flowAt(flow) == null) {
            return refuse(NO_SUCH);
        }
        int first = net.firstSentOf(flow);
        return first == NONE ? refuse(NOTHING) : answer(first);
    }

    public int past(int flow, int i) {
        if (i < 0 || i >= MOST_PAST) {
            return refuse(BAD_NUMBER);
        }
        if (net.flowAt(flow) == null) {
            return refuse(NO_SUCH);
        }
        if (i >= net.now) {
            return refuse(NOTHING);
        }
        return answer(net.pastWindow(flow, i));
    }

    public int top(int what) {
        if (what < 0 || what > 2) {
            return refuse(BAD_NUMBER);
        }
        if (net.flowCount == 0) {
            return refuse(NOTHING);
        }
        return answer(net.topFlow(what));
    }

    public int alike(int flow, int other) {
        Flow one = net.flowAt(flow);
        Flow two = net.flowAt(other);
        if (one == null || two == null) {
            return refuse(NO_SUCH);
        }
        if (one.hasPathOf(two)) {
            return answer(2);
        }
        return answer(one.hasPathBackwards(two) ? 1 : 0);
    }

    // ---- what is done

    public int set(int link, int what, int much) {
        if (!Link.allows(what, much)) {
            return refuse(BAD_NUMBER);
        }
        Link changed = net.linkAt(link);
        if (changed == null) {
            return refuse(NO_SUCH);
        }
        int old = changed.setting(what);
        if (old == much) {
            return refuse(SO_ALREADY);
        }
        changed.change(what, much);
        return answer(old);
    }

    public boolean turn(int flow, boolean on) {
        Flow changed = net.flowAt(flow);
        if (changed == null) {
            latestStatus = NO_SUCH;
            return false;
        }
        if (changed.on == on) {
            latestStatus = SO_ALREADY;
            return false;
        }
        changed.on = on;
        latestStatus = FINE;
        return true;
    }

    public int more(int flow, int n) {
        if (n < 1 || n > MOST_LEFT) {
            return refuse(BAD_NUMBER);
        }
        Flow changed = net.flowAt(flow);
        if (changed == null) {
            return refuse(NO_SUCH);
        }
        if (changed.left + n > MOST_LEFT) {
            return refuse(TOO_MANY);
        }
        changed.left += n;
        return answer(changed.left);
    }

    public int kind(int flow, int kind) {
        if (kind < HONEST || kind > GREEDY) {
            return refuse(BAD_NUMBER);
        }
        Flow changed = net.flowAt(flow);
        if (changed == null) {
            return refuse(NO_SUCH);
        }
        int old = changed.kind;
        if (old == kind) {
            return refuse(SO_ALREADY);
        }
        changed.kind = kind;
        return answer(old);
    }

    public int detour(int flow, int i, int link) {
        if (i < 0) {
            return refuse(BAD_NUMBER);
        }
        Flow changed = net.flowAt(flow);
        if (changed == null || net.linkAt(link) == null) {
            return refuse(NO_SUCH);
        }
        if (changed.goesOver(link)) {
            return refuse(SO_ALREADY);
        }
        if (i >= changed.length) {
            return refuse(NOTHING);
        }
        int old = changed.pathAt(i);
        changed.putPath(i, link);
        net.measureBack(changed);
        return answer(old);
    }

    public int tick(int many) {
        if (many < 1 || many > MOST_TICKS) {
            return refuse(BAD_NUMBER);
        }
        net.passTicks(many);
        return answer(net.now);
    }

    public int mark() {
        if (marked >= MOST_MARKS) {
            return refuse(TOO_MANY);
        }
        marks[marked].copyFrom(net);
        marked++;
        return answer(marked);
    }

    public int back() {
        if (marked < 1) {
            return refuse(NOTHING);
        }
        marked--;
        Net gone = net;
        net = marks[marked];
        marks[marked] = gone;
        return answer(marked);
    }

    // ---- what could be

    public int best(int flow) {
        if (net.flowAt(flow) == null) {
            return refuse(NO_SUCH);
        }
        bestRates.workOut(net);
        return answer(bestRates.rateOf(flow));
    }

    public int neck(int flow) {
        Flow asked = net.flowAt(flow);
        if (asked == null) {
            return refuse(NO_SUCH);
        }
        if (!asked.on) {
            return refuse(NOTHING);
        }
        bestRates.workOut(net);
        return answer(bestRates.neckOf(flow));
    }

    // ---- ON PAPER

    public int when(int flow) {
        return net.flowAt(flow) == null ? refuse(NO_SUCH) : ticksUntil(GOAL_THROUGH, flow);
    }

    public int closes(int gap) {
        return gap < 0 ? refuse(BAD_NUMBER) : ticksUntil(GOAL_CLOSE, gap);
    }

    public int caught(int flow) {
        return net.flowAt(flow) == null ? refuse(NO_SUCH) : ticksUntil(GOAL_CAUGHT, flow);
    }

    public int after(int n, int what) {
        return foretell(n, what, false);
    }

    public int without(int flow, int other, int n) {
        if (n < 1 || n > PAPER_TICKS) {
            return refuse(BAD_NUMBER);
        }
        if (net.flowAt(flow) == null || net.flowAt(other) == null) {
            return refuse(NO_SUCH);
        }
        paper.copyFrom(net);
        Flow watched = paper.flowAt(flow);
        Flow left = paper.flowAt(other);
        if (watched == null || left == null) {
            return refuse(NO_SUCH);
        }
        if (flow != other) {
            left.on = false;
        }
        int before = watched.done;
        paper.passTicks(n);
        return answer(watched.done - before);
    }

    public int blind(int n, int what) {
        return foretell(n, what, true);
    }

    public int least(int link, int what, int n) {
        if (what < SET_RATE || what > SET_ROOM || n < 1 || n > LEAST_TICKS) {
            return refuse(BAD_NUMBER);
        }
        if (net.linkAt(link) == null) {
            return refuse(NO_SUCH);
        }
        int step = what == SET_RATE ? 1 : ROOM_STEP;
        int most = what == SET_RATE ? MOST_RATE : MOST_ROOM;
        for (int much = step; much <= most; much += step) {
            if (losesNone(link, what, much, n)) {
                return answer(much);
            }
        }
        return refuse(NEVER);
    }

    private int refuse(int why) {
        latestStatus = why;
        return NONE;
    }

    private int answer(int value) {
        latestStatus = FINE;
        return value;
    }

    private void putBytes(int four) {
        for (int shift = 24; shift >= 0; shift -= 8) {
            if (taped < tape.length) {
                tape[taped] = (byte) (four >> shift);
                taped++;
            }
        }
    }

    private int ticksUntil(int goal, int number) {
        paper.copyFrom(net);
        for (int n = 0; n < PAPER_TICKS; n++) {
            if (isReached(goal, number)) {
                return answer(n);
            }
            paper.passTicks(1);
        }
        return isReached(goal, number) ? answer(PAPER_TICKS) : refuse(NEVER);
    }

    private boolean isReached(int goal, int number) {
        switch (goal) {
            case GOAL_THROUGH:
                return paper.isThrough(number);
            case GOAL_CLOSE:
                return paper.windowGap() <= number;
            default:
                return paper.linksThatCaught(number) != 0;
        }
    }

    private int foretell(int n, int what, boolean blindly) {
        if (n < 0 || n > PAPER_TICKS || what < 0 || what > 4) {
            return refuse(BAD_NUMBER);
        }
        paper.copyFrom(net);
        paper.blindly = blindly;
        paper.passTicks(n);
        switch (what) {
            case 0:
                return answer(paper.evenness());
            case 1:
                return answer(paper.windowGap());
            case 2:
                return answer(paper.doneInAll() - net.doneInAll());
            case 3:
                return answer(paper.lostInAll() - net.lostInAll());
            default:
                return answer(paper.longestRow());
        }
    }

    private boolean losesNone(int link, int what, int much, int n) {
        paper.copyFrom(net);
        Link changed = paper.linkAt(link);
        if (changed == null) {
            return false;
        }
        changed.change(what, much);
        paper.passTicks(n);
        return paper.losses == net.losses;
    }

    /** A packet stands in one Line at a time, so that one chain through all of them is enough. */
    private static final class Packet {
        int flow;
        int sentAt;
        int hops;
        int window;
        int turn;
        // What it weighs follows from what it tells, which never changes under way.
        long part;
        int feed;
        int due;
        boolean lost;
        Packet next;

        void begin(int itsFlow, int now, Flow sender) {
            flow = itsFlow;
            sentAt = now;
            hops = 0;
            window = sender.window;
            turn = sender.kind == LIAR ? 3 * sender.turn : sender.turn;
            part = window > 0 ? Math.max(1L, 10000L * turn / window) : 1L;
            feed = FIRST_FEED;
            due = 0;
            lost = false;
        }

        void copyFrom(Packet other) {
            flow = other.flow;
            sentAt = other.sentAt;
            hops = other.hops;
            window = other.window;
            turn = other.turn;
            part = other.part;
            feed = other.feed;
            due = other.due;
            lost = other.lost;
        }

        int tell(int what) {
            switch (what) {
                case 0:
                    return flow;
                case 1:
                    return sentAt;
                case 2:
                    return hops;
                case 3:
                    return window;
                case 4:
                    return turn;
                default:
                    return feed;
            }
        }
    }

    /** Packets one behind the other: a row, a wire, those that come back, or those not in use. */
    private static final class Line {
        Packet first;
        Packet last;
        int size;

        void append(Packet packet) {
            packet.next = null;
            if (last == null) {
                first = packet;
            } else {
                last.next = packet;
            }
            last = packet;
            size++;
        }

        /** null if there is none. */
        Packet takeFirst() {
            Packet taken = first;
            if (taken == null) {
                return null;
            }
            first = taken.next;
            if (first == null) {
                last = null;
            }
            taken.next = null;
            size--;
            return taken;
        }

        void moveAllTo(Line other) {
            for (int n = size; n > 0; n--) {
                Packet taken = takeFirst();
                if (taken != null) {
                    other.append(taken);
                }
            }
        }

        /** null if there are not so many. */
        Packet packetAt(int i) {
            int behind = i;
            for (Packet p = first; p != null; p = p.next) {
                if (behind == 0) {
                    return p;
                }
                behind--;
            }
            return null;
        }

        int countOf(int flow) {
            int count = 0;
            for (Packet p = first; p != null; p = p.next) {
                if (p.flow == flow) {
                    count++;
                }
            }
            return count;
        }

        int lostOf(int flow) {
            int count = 0;
            for (Packet p = first; p != null; p = p.next) {
                if (p.flow == flow && p.lost) {
                    count++;
                }
            }
            return count;
        }

        /** The earlier one of what is known (or NONE) and the first that was sent of a flow here. */
        int earlierSentOf(int flow, int known) {
            int earliest = known;
            for (Packet p = first; p != null; p = p.next) {
                if (p.flow == flow && (earliest == NONE || p.sentAt < earliest)) {
                    earliest = p.sentAt;
                }
            }
            return earliest;
        }
    }

    /** What a link has to give in a span and what it gave of it; long, as got times plus is wide. */
    private static final class Surplus {
        long plus;
        long minus;
        long weight;
        long count;
        long got;
        long took;

        void clear() {
            plus = 0;
            minus = 0;
            weight = 1;
            count = 1;
            got = 0;
            took = 0;
        }

        void copyFrom(Surplus other) {
            plus = other.plus;
            minus = other.minus;
            weight = other.weight;
            count = other.count;
            got = other.got;
            took = other.took;
        }

        void renew(long spare, long low, long came, long parts) {
            long phi = 40 * spare - 23 * low;
            long shuffle = Math.max(0L, 10 * came - Math.abs(phi));
            plus = shuffle + Math.max(0L, phi);
            minus = shuffle + Math.max(0L, -phi);
            weight = Math.max(1L, parts);
            count = Math.max(1L, came);
            got = 0;
            took = 0;
        }

        long plusFor(long much) {
            return weight > 0 ? much * plus / weight : 0;
        }

        long minusFor(long much) {
            return count > 0 ? much * minus / count : 0;
        }

        long gotWith(long part) {
            return Math.min(got + part, weight);
        }

        long tookWithOne() {
            return Math.min(took + 1, count);
        }

        int shareOf(long part) {
            long more = plusFor(gotWith(part)) - plusFor(got);
            long less = minusFor(tookWithOne()) - minusFor(took);
            return (int) (more - less);
        }

        int giveShare(long part) {
            int share = shareOf(part);
            got = gotWith(part);
            took = tookWithOne();
            return share;
        }
    }

    private static final class Link {
        int rate;
        int lag;
        int room;
        int span;
        final Line row = new Line();
        final Line wire = new Line();
        int came;
        int low;
        long parts;
        final int[] cameOf = new int[MOST_FLOWS];
        final int[] windowOf = new int[MOST_FLOWS];
        final int[] turnOf = new int[MOST_FLOWS];
        final Surplus surplus = new Surplus();
        int caughtSet;
        int fair;
        int went;
        int wentBefore;

        static boolean allows(int what, int much) {
            switch (what) {
                case SET_RATE:
                    return much >= 1 && much <= MOST_RATE;
                case SET_ROOM:
                    return much >= 1 && much <= MOST_ROOM;
                case SET_SPAN:
                    return much >= LEAST_SPAN && much <= MOST_SPAN;
                default:
                    return false;
            }
        }

        int setting(int what) {
            if (what == SET_RATE) {
                return rate;
            }
            return what == SET_ROOM ? room : span;
        }

        void change(int what, int much) {
            if (what == SET_RATE) {
                rate = much;
            } else if (what == SET_ROOM) {
                room = much;
            } else {
                span = much;
            }
        }

        void begin() {
            surplus.clear();
            caughtSet = 0;
            fair = 0;
            wentBefore = 0;
            beginSpan();
        }

        void copyFrom(Link other) {
            rate = other.rate;
            lag = other.lag;
            room = other.room;
            span = other.span;
            came = other.came;
            low = other.low;
            parts = other.parts;
            System.arraycopy(other.cameOf, 0, cameOf, 0, MOST_FLOWS);
            System.arraycopy(other.windowOf, 0, windowOf, 0, MOST_FLOWS);
            System.arraycopy(other.turnOf, 0, turnOf, 0, MOST_FLOWS);
            surplus.copyFrom(other.surplus);
            caughtSet = other.caughtSet;
            fair = other.fair;
            went = other.went;
            wentBefore = other.wentBefore;
        }

        boolean hasCaught(int flow) {
            return (caughtSet >> flow & 1) != 0;
        }

        boolean letsIn(int flow) {
            if (flow < 0 || flow >= cameOf.length || row.size >= room) {
                return false;
            }
            return !hasCaught(flow) || cameOf[flow] < fair;
        }

        void takeIn(Packet packet) {
            row.append(packet);
            came++;
            parts += packet.part;
            int flow = packet.flow;
            if (flow >= 0 && flow < cameOf.length) {
                cameOf[flow]++;
                windowOf[flow] = packet.window;
                turnOf[flow] = packet.turn;
            }
        }

        void serveRow(int now) {
            for (int n = 0; n < rate; n++) {
                Packet packet = row.takeFirst();
                if (packet == null) {
                    break;
                }
                packet.feed = Math.min(packet.feed, surplus.giveShare(packet.part));
                packet.hops++;
                packet.due = now + lag;
                wire.append(packet);
                went++;
            }
            low = Math.min(low, row.size);
        }

        boolean endsSpanAt(int now) {
            return span > 0 && now % span == 0;
        }

        void endSpan() {
            surplus.renew(rate * span - came, low, came, parts);
            caughtSet = 0;
            int flowsThatCame = 0;
            for (int f = 0; f < MOST_FLOWS; f++) {
                if (cameOf[f] > 0) {
                    flowsThatCame++;
                }
                if (cameOf[f] > mostAllowed(f)) {
                    caughtSet |= 1 << f;
                }
            }
            fair = Math.max(1, rate * span / Math.max(1, flowsThatCame));
            wentBefore = went;
            beginSpan();
        }

        int mostAllowed(int flow) {
            if (flow < 0 || flow >= turnOf.length || turnOf[flow] <= 0) {
                return 2;
            }
            int claim = windowOf[flow] * span / (100 * turnOf[flow]);
            return 3 * claim / 2 + 2;
        }

        void beginSpan() {
            came = 0;
            low = room;
            parts = 0;
            went = 0;
            Arrays.fill(cameOf, 0);
            Arrays.fill(windowOf, 0);
            Arrays.fill(turnOf, 0);
        }

        int tell(int what) {
            switch (what) {
                case 0:
                    return rate;
                case 1:
                    return lag;
                case 2:
                    return room;
                case 3:
                    return span;
                case 4:
                    return row.size;
                case 5:
                    return wire.size;
                case 6:
                    return came;
                case 7:
                    return low;
                case 14:
                    return caughtSet;
                case 15:
                    return fair;
                case 16:
                    return went;
                case 17:
                    return wentBefore;
                default:
                    return tellSurplus(what);
            }
        }

        int tellSurplus(int what) {
            switch (what) {
                case 8:
                    return (int) surplus.plus;
                case 9:
                    return (int) surplus.minus;
                case 10:
                    return (int) surplus.weight;
                case 11:
                    return (int) surplus.count;
                case 12:
                    return (int) surplus.got;
                default:
                    return (int) surplus.took;
            }
        }
    }

    private static final class Flow {
        final int[] route = new int[LONGEST_PATH];
        int length;
        int left;
        int kind;
        boolean on;
        int wayBack;
        int window;
        int flying;
        int turn;
        int sent;
        int done;
        int lost;

        void begin() {
            length = 0;
            left = MOST_LEFT;
            kind = HONEST;
            on = true;
            wayBack = 0;
            window = FIRST_WINDOW;
            flying = 0;
            turn = 0;
            sent = 0;
            done = 0;
            lost = 0;
        }

        void copyFrom(Flow other) {
            System.arraycopy(other.route, 0, route, 0, LONGEST_PATH);
            length = other.length;
            left = other.left;
            kind = other.kind;
            on = other.on;
            wayBack = other.wayBack;
            window = other.window;
            flying = other.flying;
            turn = other.turn;
            sent = other.sent;
            done = other.done;
            lost = other.lost;
        }

        /** NONE behind the last link. */
        int pathAt(int i) {
            return i >= 0 && i < length && i < route.length ? route[i] : NONE;
        }

        void putPath(int i, int link) {
            if (i >= 0 && i < route.length) {
                route[i] = link;
            }
        }

        void addToPath(int link) {
            putPath(length, link);
            length++;
        }

        boolean goesOver(int link) {
            for (int i = 0; i < length; i++) {
                if (pathAt(i) == link) {
                    return true;
                }
            }
            return false;
        }

        boolean hasPathOf(Flow other) {
            for (int i = 0; i < length; i++) {
                if (pathAt(i) != other.pathAt(i)) {
                    return false;
                }
            }
            return length == other.length;
        }

        boolean hasPathBackwards(Flow other) {
            for (int i = 0; i < length; i++) {
                if (pathAt(i) != other.pathAt(length - 1 - i)) {
                    return false;
                }
            }
            return length == other.length;
        }

        boolean maySend() {
            int reach = kind == GREEDY ? 2 * window : window;
            return on && left > 0 && (flying + 1) * 100 <= reach;
        }

        void noteSent() {
            left--;
            sent++;
            flying++;
        }

        void noteReturn(Packet packet, int now, boolean blindly) {
            flying--;
            turn = now - packet.sentAt;
            if (packet.lost) {
                lost++;
                left = Math.min(left + 1, MOST_LEFT);
                window /= 2;
            } else {
                done++;
                window += gain(packet.feed, blindly);
            }
            window = Math.max(LEAST_WINDOW, Math.min(window, MOST_WINDOW));
        }

        int gain(int feed, boolean blindly) {
            if (blindly) {
                return window > 0 ? 10000 / window : 0;
            }
            return kind == DEAF ? Math.max(0, feed) : feed;
        }

        boolean isThrough() {
            return left == 0 && flying == 0;
        }

        int tell(int what) {
            switch (what) {
                case 0:
                    return length;
                case 1:
                    return left;
                case 2:
                    return kind;
                case 3:
                    return on ? 1 : 0;
                case 4:
                    return wayBack;
                case 5:
                    return window;
                case 6:
                    return flying;
                case 7:
                    return turn;
                case 8:
                    return sent;
                case 9:
                    return done;
                default:
                    return lost;
            }
        }
    }

    /** The latest events, in a ring. */
    private static final class Events {
        final int[] kinds = new int[MOST_EVENTS];
        final int[] ticks = new int[MOST_EVENTS];
        final int[] links = new int[MOST_EVENTS];
        final int[] flows = new int[MOST_EVENTS];
        int slot;
        int kept;

        void clear() {
            slot = 0;
            kept = 0;
        }

        void copyFrom(Events other) {
            System.arraycopy(other.kinds, 0, kinds, 0, MOST_EVENTS);
            System.arraycopy(other.ticks, 0, ticks, 0, MOST_EVENTS);
            System.arraycopy(other.links, 0, links, 0, MOST_EVENTS);
            System.arraycopy(other.flows, 0, flows, 0, MOST_EVENTS);
            slot = other.slot;
            kept = other.kept;
        }

        void add(int kind, int now, int link, int flow) {
            if (slot < 0 || slot >= MOST_EVENTS) {
                slot = 0;
            }
            kinds[slot] = kind;
            ticks[slot] = now;
            links[slot] = link;
            flows[slot] = flow;
            slot = (slot + 1) % MOST_EVENTS;
            kept = Math.min(kept + 1, MOST_EVENTS);
        }

        int tell(int i, int what) {
            int at = Math.floorMod(slot - 1 - i, MOST_EVENTS);
            switch (what) {
                case 0:
                    return kinds[at];
                case 1:
                    return ticks[at];
                case 2:
                    return links[at];
                default:
                    return flows[at];
            }
        }
    }

    /** Links, flows and all that is under way: what a mark keeps and what is copied to paper. */
    private static final class Net {
        final Link[] links = new Link[MOST_LINKS];
        int linkCount;
        final Flow[] flows = new Flow[MOST_FLOWS];
        int flowCount;
        int now;
        final Line returning = new Line();
        final Line spare = new Line();
        int packetsMade;
        final Events events = new Events();
        final int[] pastWindows = new int[MOST_PAST * MOST_FLOWS];
        int losses;
        boolean blindly;

        Net() {
            for (int i = 0; i < links.length; i++) {
                links[i] = new Link();
            }
            for (int i = 0; i < flows.length; i++) {
                flows[i] = new Flow();
            }
        }

        void clear() {
            spareAllPackets();
            linkCount = 0;
            flowCount = 0;
            now = 0;
            events.clear();
            losses = 0;
            blindly = false;
        }

        void copyFrom(Net other) {
            spareAllPackets();
            linkCount = other.linkCount;
            flowCount = other.flowCount;
            now = other.now;
            for (int i = 0; i < linkCount; i++) {
                links[i].copyFrom(other.links[i]);
                copyLine(other.links[i].row, links[i].row);
                copyLine(other.links[i].wire, links[i].wire);
            }
            for (int i = 0; i < flowCount; i++) {
                flows[i].copyFrom(other.flows[i]);
            }
            copyLine(other.returning, returning);
            events.copyFrom(other.events);
            System.arraycopy(other.pastWindows, 0, pastWindows, 0, pastWindows.length);
            losses = other.losses;
            blindly = other.blindly;
        }

        void spareAllPackets() {
            for (int i = 0; i < linkCount; i++) {
                links[i].row.moveAllTo(spare);
                links[i].wire.moveAllTo(spare);
            }
            returning.moveAllTo(spare);
        }

        void copyLine(Line from, Line to) {
            for (Packet p = from.first; p != null; p = p.next) {
                Packet copy = freshPacket();
                if (copy == null) {
                    break;
                }
                copy.copyFrom(p);
                to.append(copy);
            }
        }

        /** null if there are as many as can ever fly. */
        Packet freshPacket() {
            Packet packet = spare.takeFirst();
            if (packet == null && packetsMade < MOST_PACKETS) {
                packetsMade++;
                packet = new Packet();
            }
            return packet;
        }

        /** null if there is no such link. */
        Link linkAt(int i) {
            return i >= 0 && i < linkCount && i < links.length ? links[i] : null;
        }

        /** null if there is no such flow. */
        Flow flowAt(int i) {
            return i >= 0 && i < flowCount && i < flows.length ? flows[i] : null;
        }

        /** null if there is no place for another one. */
        Link addLink() {
            if (linkCount >= links.length) {
                return null;
            }
            linkCount++;
            return links[linkCount - 1];
        }

        /** null if there is no place for another one. */
        Flow addFlow() {
            if (flowCount >= flows.length) {
                return null;
            }
            flowCount++;
            return flows[flowCount - 1];
        }

        void measureBack(Flow flow) {
            int lags = 0;
            for (int i = 0; i < flow.length; i++) {
                Link link = linkAt(flow.pathAt(i));
                if (link != null) {
                    lags += link.lag;
                }
            }
            flow.wayBack = lags;
        }

        void passTicks(int many) {
            for (int n = 0; n < many; n++) {
                now++;
                takeReturns();
                for (int i = 0; i < linkCount; i++) {
                    emptyWire(links[i].wire);
                }
                for (int f = 0; f < flowCount; f++) {
                    sendFrom(f, flows[f]);
                }
                for (int i = 0; i < linkCount; i++) {
                    links[i].serveRow(now);
                }
                for (int i = 0; i < linkCount; i++) {
                    endSpanIfDue(i, links[i]);
                }
                keepWindows();
            }
        }

        void takeReturns() {
            // Those that are not due yet go through to the end again, which keeps their order.
            for (int n = returning.size; n > 0; n--) {
                Packet packet = returning.takeFirst();
                if (packet == null) {
                    break;
                }
                if (packet.due == now) {
                    takeReturn(packet);
                } else {
                    returning.append(packet);
                }
            }
        }

        void takeReturn(Packet packet) {
            Flow flow = flowAt(packet.flow);
            if (flow != null) {
                flow.noteReturn(packet, now, blindly);
                if (flow.isThrough()) {
                    events.add(EVENT_ALL_BACK, now, NONE, packet.flow);
                }
            }
            spare.append(packet);
        }

        void emptyWire(Line wire) {
            for (int n = wire.size; n > 0; n--) {
                // One lag for all of a wire: who is due is always in front.
                if (wire.first == null || wire.first.due != now) {
                    break;
                }
                Packet packet = wire.takeFirst();
                if (packet != null) {
                    goOn(packet, flowAt(packet.flow));
                }
            }
        }

        void sendFrom(int number, Flow flow) {
            for (int n = 0; n < SENT_A_TICK && flow.maySend(); n++) {
                Packet packet = freshPacket();
                if (packet == null) {
                    break;
                }
                packet.begin(number, now, flow);
                flow.noteSent();
                if (flow.left == 0) {
                    events.add(EVENT_SENT_ALL, now, NONE, number);
                }
                goOn(packet, flow);
            }
        }

        void goOn(Packet packet, Flow flow) {
            if (flow == null) {
                spare.append(packet);
                return;
            }
            int place = flow.pathAt(packet.hops);
            Link link = linkAt(place);
            if (link == null) {
                sendBack(packet, flow);
            } else if (link.letsIn(packet.flow)) {
                link.takeIn(packet);
            } else {
                packet.lost = true;
                losses++;
                events.add(EVENT_LOST, now, place, packet.flow);
                sendBack(packet, flow);
            }
        }

        void sendBack(Packet packet, Flow flow) {
            packet.due = now + flow.wayBack;
            returning.append(packet);
        }

        void endSpanIfDue(int number, Link link) {
            if (link.endsSpanAt(now)) {
                int before = link.caughtSet;
                link.endSpan();
                tellCaught(number, before, link.caughtSet);
            }
        }

        void tellCaught(int link, int before, int after) {
            for (int f = 0; f < flowCount; f++) {
                int was = before >> f & 1;
                int is = after >> f & 1;
                if (was != is) {
                    events.add(is == 1 ? EVENT_CAUGHT : EVENT_FREED, now, link, f);
                }
            }
        }

        void keepWindows() {
            int from = now % MOST_PAST * MOST_FLOWS;
            if (from < 0) {
                return;
            }
            for (int f = 0; f < flowCount; f++) {
                pastWindows[from + f] = flows[f].window;
            }
        }

        int pastWindow(int flow, int ago) {
            int at = Math.floorMod(now - ago, MOST_PAST) * MOST_FLOWS + flow;
            return at >= 0 && at < pastWindows.length ? pastWindows[at] : NONE;
        }

        int linksThatCaught(int flow) {
            int set = 0;
            for (int i = 0; i < linkCount; i++) {
                if (links[i].hasCaught(flow)) {
                    set |= 1 << i;
                }
            }
            return set;
        }

        boolean isThrough(int number) {
            Flow flow = flowAt(number);
            return flow != null && flow.isThrough();
        }

        int standing() {
            int count = 0;
            for (int i = 0; i < linkCount; i++) {
                count += links[i].row.size;
            }
            return count;
        }

        int wired() {
            int count = 0;
            for (int i = 0; i < linkCount; i++) {
                count += links[i].wire.size;
            }
            return count;
        }

        int standingOf(int flow) {
            int count = 0;
            for (int i = 0; i < linkCount; i++) {
                count += links[i].row.countOf(flow);
            }
            return count;
        }

        int wiredOf(int flow) {
            int count = 0;
            for (int i = 0; i < linkCount; i++) {
                count += links[i].wire.countOf(flow);
            }
            return count;
        }

        /** NONE if nothing of it flies. */
        int firstSentOf(int flow) {
            int first = returning.earlierSentOf(flow, NONE);
            for (int i = 0; i < linkCount; i++) {
                first = links[i].row.earlierSentOf(flow, first);
                first = links[i].wire.earlierSentOf(flow, first);
            }
            return first;
        }

        int longestRow() {
            int longest = 0;
            for (int i = 0; i < linkCount; i++) {
                longest = Math.max(longest, links[i].row.size);
            }
            return longest;
        }

        int doneInAll() {
            int sum = 0;
            for (int f = 0; f < flowCount; f++) {
                sum += flows[f].done;
            }
            return sum;
        }

        int lostInAll() {
            int sum = 0;
            for (int f = 0; f < flowCount; f++) {
                sum += flows[f].lost;
            }
            return sum;
        }

        int evenness() {
            long count = 0;
            long sum = 0;
            long squares = 0;
            for (int f = 0; f < flowCount; f++) {
                if (flows[f].on) {
                    long window = flows[f].window;
                    count++;
                    sum += window;
                    squares += window * window;
                }
            }
            long whole = count * squares;
            return whole > 0 ? (int) (sum * sum * 1000 / whole) : 1000;
        }

        int windowGap() {
            int greatest = NONE;
            int least = NONE;
            for (int f = 0; f < flowCount; f++) {
                if (flows[f].on) {
                    int window = flows[f].window;
                    greatest = Math.max(greatest, window);
                    least = least == NONE ? window : Math.min(least, window);
                }
            }
            return greatest - least;
        }

        int topFlow(int what) {
            int best = 0;
            for (int f = 1; f < flowCount; f++) {
                if (rank(f, what) > rank(best, what)) {
                    best = f;
                }
            }
            return best;
        }

        int rank(int number, int what) {
            Flow flow = flowAt(number);
            if (flow == null) {
                return NONE;
            }
            if (what == 0) {
                return flow.window;
            }
            return what == 1 ? flow.done : flow.lost;
        }
    }

    /** The rates that are as even as the links allow, and the link that bounds each. */
    private static final class BestRates {
        final int[] rates = new int[MOST_FLOWS];
        final int[] necks = new int[MOST_FLOWS];
        final boolean[] grows = new boolean[MOST_FLOWS];

        int rateOf(int flow) {
            return flow >= 0 && flow < rates.length ? rates[flow] : 0;
        }

        int neckOf(int flow) {
            return flow >= 0 && flow < necks.length ? necks[flow] : NONE;
        }

        void workOut(Net net) {
            for (int f = 0; f < MOST_FLOWS; f++) {
                Flow flow = net.flowAt(f);
                rates[f] = 0;
                necks[f] = NONE;
                grows[f] = flow != null && flow.on;
            }
            // Each round stops one flow at least.
            for (int round = 0; round < MOST_FLOWS; round++) {
                stopAtTightest(net);
            }
        }

        void stopAtTightest(Net net) {
            int tightest = NONE;
            int least = 0;
            for (int i = 0; i < net.linkCount; i++) {
                int each = roomForEach(net, i);
                if (each != NONE && (tightest == NONE || each < least)) {
                    tightest = i;
                    least = each;
                }
            }
            for (int f = 0; f < MOST_FLOWS && tightest != NONE; f++) {
                if (grows[f] && crosses(net, f, tightest)) {
                    rates[f] = least;
                    necks[f] = tightest;
                    grows[f] = false;
                }
            }
        }

        /** NONE if no flow grows at the link. */
        int roomForEach(Net net, int number) {
            Link link = net.linkAt(number);
            if (link == null) {
                return NONE;
            }
            int rest = 1000 * link.rate;
            int growing = 0;
            for (int f = 0; f < MOST_FLOWS; f++) {
                if (crosses(net, f, number)) {
                    rest -= rates[f];
                    growing += grows[f] ? 1 : 0;
                }
            }
            return growing > 0 ? rest / growing : NONE;
        }

        boolean crosses(Net net, int number, int link) {
            Flow flow = net.flowAt(number);
            return flow != null && flow.goesOver(link);
        }
    }

    /** Reads a text into a net, up to its first fault. */
    private static final class TextReader {
        private static final int END = 0;
        private static final int WORD = 1;
        private static final int NUMBER = 2;
        private static final int SIGN = 3;
        private static final int WRONG = 4;

        private static final int NO_TOKEN = 1;
        private static final int OUT_OF_PLACE = 2;
        private static final int UNKNOWN_LINK = 3;
        private static final int WRONG_NUMBER = 4;
        private static final int MARKED_TWICE = 5;
        private static final int ONE_TOO_MANY = 6;

        private byte[] text;
        private int length;
        private int start;
        private int end;
        private int sort;
        private int value;
        private Net target;
        private boolean hasLeft;
        int fault;
        int place;

        boolean readNet(byte[] tape, int n, Net into) {
            text = tape;
            length = Math.min(n, tape.length);
            target = into;
            fault = 0;
            place = NONE;
            end = 0;
            target.clear();
            advance();
            // A line takes a byte at least, so that there are never as many as bytes.
            boolean whole = true;
            for (int lines = 0; lines <= MOST_BYTES && whole && sort != END; lines++) {
                if (isWord("link")) {
                    whole = readLink();
                } else if (isWord("flow")) {
                    whole = readFlow();
                } else {
                    whole = stopWith(OUT_OF_PLACE);
                }
            }
            return whole;
        }

        boolean readLink() {
            Link link = target.addLink();
            if (link == null) {
                return stopWith(ONE_TOO_MANY);
            }
            if (!nextNumber(1, MOST_RATE)) {
                return false;
            }
            link.rate = value;
            if (!nextNumber(1, MOST_LAG)) {
                return false;
            }
            link.lag = value;
            if (!nextNumber(1, MOST_ROOM)) {
                return false;
            }
            link.room = value;
            link.span = USUAL_SPAN;
            advance();
            if (isWord("span")) {
                if (!nextNumber(LEAST_SPAN, MOST_SPAN)) {
                    return false;
                }
                link.span = value;
                advance();
            }
            link.begin();
            return readSign();
        }

        boolean readFlow() {
            Flow flow = target.addFlow();
            if (flow == null) {
                return stopWith(ONE_TOO_MANY);
            }
            flow.begin();
            hasLeft = false;
            advance();
            boolean whole = readPath(flow);
            // There are three sorts of marks, and the second of one is a fault.
            for (int marks = 0; marks <= 3 && whole && sort == WORD; marks++) {
                whole = readMark(flow);
            }
            target.measureBack(flow);
            flow.turn = 2 * flow.wayBack;
            return whole && readSign();
        }

        boolean readPath(Flow flow) {
            if (sort != NUMBER) {
                return stopWith(OUT_OF_PLACE);
            }
            for (int n = 0; n <= LONGEST_PATH && sort == NUMBER; n++) {
                if (value >= target.linkCount) {
                    return stopWith(UNKNOWN_LINK);
                }
                if (flow.goesOver(value)) {
                    return stopWith(WRONG_NUMBER);
                }
                if (flow.length >= LONGEST_PATH) {
                    return stopWith(ONE_TOO_MANY);
                }
                flow.addToPath(value);
                advance();
            }
            return true;
        }

        boolean readMark(Flow flow) {
            int kind = kindOfWord();
            if (kind != HONEST) {
                if (flow.kind != HONEST) {
                    return stopWith(MARKED_TWICE);
                }
                flow.kind = kind;
            } else if (isWord("off")) {
                if (!flow.on) {
                    return stopWith(MARKED_TWICE);
                }
                flow.on = false;
            } else if (isWord("left")) {
                if (hasLeft) {
                    return stopWith(MARKED_TWICE);
                }
                hasLeft = true;
                if (!nextNumber(0, MOST_LEFT)) {
                    return false;
                }
                flow.left = value;
            } else {
                return stopWith(OUT_OF_PLACE);
            }
            advance();
            return true;
        }

        /** HONEST if it is the word of no other kind. */
        int kindOfWord() {
            if (isWord("deaf")) {
                return DEAF;
            }
            if (isWord("liar")) {
                return LIAR;
            }
            return isWord("greedy") ? GREEDY : HONEST;
        }

        boolean nextNumber(int least, int most) {
            advance();
            if (sort != NUMBER) {
                return stopWith(OUT_OF_PLACE);
            }
            return value >= least && value <= most || stopWith(WRONG_NUMBER);
        }

        boolean readSign() {
            if (sort != SIGN) {
                return stopWith(OUT_OF_PLACE);
            }
            advance();
            return true;
        }

        /** Always false, as an answer for the one who found the fault. */
        boolean stopWith(int kind) {
            // What is no token can't stand anywhere, and of one token the least kind counts.
            fault = sort == WRONG ? NO_TOKEN : kind;
            place = start;
            return false;
        }

        void advance() {
            while (end < length && (byteAt(end) == 10 || byteAt(end) == 32)) {
                end++;
            }
            start = end;
            int sign = byteAt(start);
            if (start >= length) {
                sort = END;
            } else if (sign >= 'a' && sign <= 'z') {
                sort = WORD;
                end = endOfRun('a', 'z');
            } else if (sign >= '0' && sign <= '9') {
                end = endOfRun('0', '9');
                sort = end - start <= MOST_DIGITS ? NUMBER : WRONG;
                value = sort == NUMBER ? valueOfDigits() : 0;
            } else {
                sort = sign == ';' ? SIGN : WRONG;
                end = start + 1;
            }
        }

        int endOfRun(char low, char high) {
            int at = start;
            while (at < length && byteAt(at) >= low && byteAt(at) <= high) {
                at++;
            }
            return at;
        }

        int valueOfDigits() {
            int sum = 0;
            for (int i = start; i < end; i++) {
                sum = sum * 10 + byteAt(i) - '0';
            }
            return sum;
        }

        boolean isWord(String word) {
            if (sort != WORD || end - start != word.length()) {
                return false;
            }
            for (int i = 0; i < word.length(); i++) {
                if (byteAt(start + i) != word.charAt(i)) {
                    return false;
                }
            }
            return true;
        }

        int byteAt(int i) {
            return text != null && i >= 0 && i < text.length ? text[i] & 255 : 0;
        }
    }
}

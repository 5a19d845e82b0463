/** All that can be asked of an object without changing it, as one text. */
final class Snapshot {
    private Snapshot() {
    }

    static String of(SharedSurplus x) {
        return ofNet(x) + x.fault(0) + ' ' + x.fault(1);
    }

    /** Without what fault() tells, which belongs to the latest load. */
    static String ofNet(SharedSurplus x) {
        StringBuilder all = new StringBuilder();
        for (int what = 0; what <= 9; what++) {
            all.append(x.many(what)).append(' ');
        }
        int links = x.many(0);
        int flows = x.many(1);
        for (int i = 0; i < links; i++) {
            addLink(all, x, i);
        }
        for (int f = 0; f < flows; f++) {
            addFlow(all, x, f);
        }
        for (int i = 0; i < x.many(7); i++) {
            all.append('e');
            for (int what = 0; what <= 3; what++) {
                all.append(x.event(i, what)).append(' ');
            }
        }
        return all.toString();
    }

    private static void addLink(StringBuilder all, SharedSurplus x, int link) {
        all.append("l");
        for (int what = 0; what <= 17; what++) {
            all.append(x.link(link, what)).append(' ');
        }
        all.append(x.given(link, 0)).append(' ').append(x.given(link, 1)).append(' ');
        for (int i = 0; i < x.link(link, 4); i++) {
            all.append('p');
            for (int what = 0; what <= 6; what++) {
                all.append(x.packet(link, i, what)).append(' ');
            }
        }
    }

    private static void addFlow(StringBuilder all, SharedSurplus x, int flow) {
        all.append("f");
        for (int what = 0; what <= 11; what++) {
            all.append(x.flow(flow, what)).append(' ');
        }
        for (int i = 0; i < x.flow(flow, 0); i++) {
            all.append(x.path(flow, i)).append(' ');
        }
        for (int what = 0; what <= 3; what++) {
            all.append(x.where(flow, what)).append(' ');
        }
        all.append(x.eldest(flow)).append('h');
        for (int i = 0; i < 20; i++) {
            all.append(x.past(flow, i)).append(' ');
        }
    }
}

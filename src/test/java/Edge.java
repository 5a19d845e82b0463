import java.util.function.Supplier;

/** One sentence of the document that names a boundary case, and the answers that it asks for. */
final class Edge {
    private static final int NO_SUCH_WHAT = -1;
    private static int sentences;
    private static int asked;
    private static int wrong;

    private final String where;
    private final String words;

    /** where: "Promise 9" or "Section 3" (the Terms ahead of section 2 are "Terms"); words: as the document has them. */
    Edge(String where, String words) {
        this.where = where;
        this.words = words;
        sentences++;
    }

    void due(String what, long got, long want) {
        asked++;
        if (got != want) {
            wrong++;
            System.out.println(where + ", \"" + words + "\": " + what + " answered " + got + ", due is " + want);
        }
    }

    void due(String what, boolean holds) {
        due(what, holds ? 1 : 0, 1);
    }

    /** A call that is taken: its answer, and STATUS 0, whatever it was ahead of it. */
    void due(SharedSurplus x, String call, long want) {
        if (hasNoStatus(call)) {
            due(call, Calls.ask(x, call), want);
            return;
        }
        x.many(NO_SUCH_WHAT);
        due("status() ahead of " + call, x.status(), 1);
        due(call, Calls.ask(x, call), want);
        due("status() behind " + call, x.status(), 0);
    }

    /** Calls of one name and first arguments, such as "flow(0, ", whose last argument counts from 0 on. */
    void dueEach(SharedSurplus x, String head, int... wants) {
        for (int i = 0; i < wants.length; i++) {
            due(x, head + i + ")", wants[i]);
        }
    }

    /** Calls that are refused, each on an object of its own: answer, STATUS, and all else as with one that was not asked. */
    void refused(Supplier<SharedSurplus> make, int status, String... calls) {
        for (String call : calls) {
            SharedSurplus one = make.get();
            due(call, Calls.ask(one, call), Calls.refusal(call));
            due("status() behind " + call, one.status(), status);
            due("all is as it was ahead of " + call, Future.of(one).equals(Future.of(make.get())));
        }
    }

    private static boolean hasNoStatus(String call) {
        return call.startsWith("status(") || call.startsWith("feed(") || call.startsWith("fault(");
    }

    static void end() {
        System.out.println(sentences + " sentences, " + asked + " answers, " + wrong + " not as due");
        if (wrong != 0 || asked == 0) {
            System.exit(1);
        }
    }
}

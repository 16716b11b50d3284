import java.util.List;

/** Holds the class to one sentence of the document after the other. */
final class Edge {
    static final int BAD = -1, NOT = -2, FULL = -3, STATE = -5, VOID = -2000000000;
    static final int NOTHING = -11, OTHER_KIND = -12, NO_PLACE = -13, NO_SIZE = -14;
    static final int LEAST = Integer.MIN_VALUE, MOST = Integer.MAX_VALUE;

    private static String sentence = "";

    interface Before {
        void on(FameAhead x);
    }

    interface Call {
        long on(FameAhead x);
    }

    interface CallWith {
        long on(FameAhead x, int v);
    }

    private Edge() {
    }

    /** What follows is asked for by these words; part 0: they stand ahead of promise 1, else the promise's number. */
    static void says(int part, String words) {
        sentence = words;
        Doc.quote(part, words);
    }

    static void is(String call, long got, long want) {
        if (got != want) {
            Due.is("by \"" + sentence + "\" " + call, got, want);
        }
    }

    /** The call is answered as due, and leaves an object just as another one that was not asked. */
    static void refused(String call, long due, Before before, Call asking) {
        for (int view = 0; view < Views.COUNT; view++) {
            FameAhead asked = new FameAhead();
            FameAhead other = new FameAhead();
            before.on(asked);
            before.on(other);
            is(call, asking.on(asked), due);
            List<Long> left = Views.of(asked, view);
            List<Long> right = Views.of(other, view);
            for (int i = 0; i < left.size(); i++) {
                is(call + " changed what place " + i + " of view " + view + " shows", left.get(i), right.get(i));
            }
        }
    }

    /** As refused(), on the furnished land, for each of these numbers. */
    static void refusedEach(String call, long due, int[] wrong, CallWith asking) {
        for (int v : wrong) {
            refused(call + " with " + v, due, World::furnished, x -> asking.on(x, v));
        }
    }

    /** The answers of calls with 0 .. due.length - 1. */
    static void each(String call, FameAhead x, CallWith asking, long... due) {
        for (int v = 0; v < due.length; v++) {
            is(call + " with " + v, asking.on(x, v), due[v]);
        }
    }
}

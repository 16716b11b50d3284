/** Counts the answers that are not the ones due. */
final class Due {
    private static int wrong = 0;

    private Due() {
    }

    static void is(String call, long got, long want) {
        if (got != want) {
            wrong++;
            System.out.println(call + " answered " + got + ", due is " + want);
        }
    }

    /** To be called last: ends the program with exit code 1 if an answer was wrong. */
    static void close() {
        System.out.println(wrong == 0 ? "all answers are as due" : wrong + " answers are not as due");
        if (wrong != 0) {
            System.exit(1);
        }
    }

    /** Feeds a text and makes it THE LAW. */
    static int tell(FameAhead x, String text) {
        for (int i = 0; i < text.length(); i++) {
            x.feed(text.charAt(i));
        }
        return x.law();
    }

    /** Lays a ROW of a sort with these elements on a SHELF. */
    static void lay(FameAhead x, int shelf, int sort, long... elements) {
        x.row(shelf, sort, elements.length);
        for (int i = 0; i < elements.length; i++) {
            x.put(shelf, i, elements[i]);
        }
    }

    /** n TOWNS of the same DEAF. */
    static FameAhead land(int n, int deaf) {
        FameAhead x = new FameAhead();
        for (int i = 0; i < n; i++) {
            x.town(deaf);
        }
        return x;
    }
}

/** Lands on which calls are refused, and what numbers no one, TOWN, DEED and so on has in furnished(). */
final class World {
    private static final int LEAST = Integer.MIN_VALUE, MOST = Integer.MAX_VALUE;

    static final int[] NO_TOWN = {-1, 4, 7, 8, LEAST, MOST};
    static final int[] NO_ROAD = {-1, 4, 11, 12, LEAST, MOST};
    static final int[] NO_DEED = {-1, 6, 9, 10, LEAST, MOST};
    static final int[] NO_ONE = {-1, 4, 10, LEAST, MOST};
    static final int[] NO_PM = {-1, -10, 5, 9, 15, 35, 39, 40, 44, 100, LEAST, MOST};
    static final int[] NO_TH = {-1, -1000, 4000, 4999, 7000, 8000, LEAST, MOST};
    static final int[] NO_PAIR = {-1, -10, -11, 4, 14, 40, 41, 44, 9, 100, LEAST, MOST};
    static final int[] NO_HOUR = {-1, 1000, LEAST, MOST};
    static final int[] NO_WEIGHT = {-1, 0, 10, LEAST, MOST};
    static final int[] NO_SHELF = {-1, 6, LEAST, MOST};

    private World() {
    }

    /**
     * Something of everything: four TOWNS and ROADS, six DEEDS, a law, bytes on THE TAPE, changes done and undone,
     * an image, eight BODIES, a TRACE; SHELVES of bytes, shorts, ints, a WORD, nothing and longs. Some 80 calls.
     */
    static void furnished(FameAhead x) {
        for (int deaf : new int[] {0, 3, 1, 0}) {
            x.town(deaf);
        }
        x.road(1, 10);
        x.road(12, 7);
        x.road(23, 24);
        x.road(3, 20);
        x.deed(1, 12, 9);
        x.deed(3, 1040, 6);
        x.deed(10, 5, 4);
        x.deed(14, 2100, 3);
        Due.tell(x, "w*5-a/6-d/2+t");
        x.mend(0, 6, 2);
        x.mend(0, 7, 30);
        x.mend(1, 0, 4);
        x.mend(2, 2, 0);
        x.mend(0, 8, 3);
        x.undo();
        x.undo();
        x.walk(0, 0);
        x.does(2, 7);
        x.image();
        x.walk(1, 3);
        x.does(13, 5);
        for (int kind = 0; kind < 8; kind++) {
            x.body(kind);
        }
        x.act(5, 3, 4);
        feed(x, "w*3");
        Due.lay(x, 0, 0, 1, -2, 3);
        Due.lay(x, 1, 1, 0, 1, 20, 3, 4, 3, 1, 999, 0);
        Due.lay(x, 2, 2, 7, 1 << 20);
        x.keep(3, 5);
        Due.lay(x, 5, 3, Long.MAX_VALUE, 5);
    }

    /** TOWNS, ROADS, DEEDS, THE TAPE, changes and BODIES are all FULL. Some 240 calls. */
    static void full(FameAhead x) {
        for (int i = 0; i < 8; i++) {
            x.town(i);
        }
        for (int i = 0; i < 12; i++) {
            x.road(i < 7 ? 11 * i + 1 : i - 5, i + 1);
        }
        for (int i = 0; i < 10; i++) {
            x.deed(i % 4 * 10 + i % 5, 1000 * (i % 8) + i, 1 + i % 9);
        }
        for (int i = 0; i < 41; i++) {
            x.mend(0, 3, i + 1);
        }
        for (int i = 0; i < 50; i++) {
            x.body(i % 8);
        }
        for (int i = 0; i < 120; i++) {
            x.feed(i == 118 ? '1' : i == 119 ? '5' : i % 2 == 0 ? 'w' : '+');
        }
    }

    static void feed(FameAhead x, String text) {
        for (int i = 0; i < text.length(); i++) {
            x.feed(text.charAt(i));
        }
    }

    /** n TOWNS in a row, 0 - 1 - 2 .., each ROAD as long. */
    static FameAhead chain(int n, int length) {
        FameAhead x = Due.land(n, 0);
        for (int i = 0; i + 1 < n; i++) {
            x.road(11 * i + 1, length);
        }
        return x;
    }
}

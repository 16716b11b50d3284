/** SHELVES, REFUSALS and DEEDS FROM A ROW in head 5, and promises 5, 39 to 44. */
final class EdgesOfShelves {
    private static final int[] SORTS = {0, 1, 2, 3, 4};

    private EdgesOfShelves() {
    }

    static void run() {
        atFirst();
        sizes();
        lowestBits();
        refusals();
        deedsFromARow();
        rowsThatEnd();
        deedsThatAreNotSo();
        deedsThatAreFull();
        deedsAskedFor();
        keepAskedFor();
        rowAskedFor();
        putAskedFor();
        elementAskedFor();
        shifting();
        shiftAskedFor();
        takenAskedFor();
    }

    private static void atFirst() {
        Edge.says(0, "SHELVES 0 .. 5 each hold nothing (at first), a WORD (a BODY), or a ROW");
        FameAhead x = new FameAhead();
        x.body(6);
        for (int shelf = 0; shelf < 6; shelf++) {
            Edge.is("at first", x.taken(shelf, 0), Edge.NOTHING);
            Edge.is("at first", x.put(shelf, 0, 1), Edge.NOTHING);
            Edge.is("a WORD", x.keep(shelf, 0), 1);
            Edge.is("is there", x.taken(shelf, 0), 6);
            Edge.is("so no ROW", x.put(shelf, 0, 1), Edge.OTHER_KIND);
            Edge.is("a ROW", x.row(shelf, 2, 1), 1);
            Edge.is("is there", x.put(shelf, 0, shelf + 1), 1);
            Edge.is("so no WORD", x.taken(shelf, 0), Edge.OTHER_KIND);
        }
        for (int shelf = 0; shelf < 6; shelf++) {
            Edge.is("each has its own", x.element(shelf, 0), shelf + 1);
            Edge.is("nothing again", x.keep(shelf, -1), 1);
            Edge.is("nothing is there", x.taken(shelf, 0), Edge.NOTHING);
        }
    }

    private static void sizes() {
        Edge.says(0, "of 0 bytes, 1 shorts, 2 ints, 3 longs, 4 booleans, of 0 .. 60 elements, 0 at first (false)");
        for (int sort : SORTS) {
            FameAhead x = new FameAhead();
            Edge.is("none", x.row(0, sort, 0), 1);
            Edge.is("has no place 0", x.put(0, 0, 1), Edge.NO_PLACE);
            Edge.is("one", x.row(0, sort, 1), 1);
            Edge.is("its place 0", x.element(0, 0), 0);
            Edge.is("has no place 1", x.put(0, 1, 1), Edge.NO_PLACE);
            Edge.is("sixty", x.row(0, sort, 60), 1);
            for (int i = 0; i < 60; i++) {
                Edge.is("0 at first", x.element(0, i), 0);
                x.put(0, i, 1);
            }
            Edge.is("has no place 60", x.put(0, 60, 1), Edge.NO_PLACE);
            Edge.is("sixty anew", x.row(0, sort, 60), 1);
            for (int i = 0; i < 60; i++) {
                Edge.is("0 at first again", x.element(0, i), 0);
            }
        }
    }

    private static void lowestBits() {
        Edge.says(0, "what is put in keeps its lowest bits (a boolean: whether it is not 0; 1 or 0)");
        keeps(0, 127, 127);
        keeps(0, 128, -128);
        keeps(0, 255, -1);
        keeps(0, 256, 0);
        keeps(0, -128, -128);
        keeps(0, -129, 127);
        keeps(1, 32767, 32767);
        keeps(1, 32768, -32768);
        keeps(1, 65535, -1);
        keeps(1, 65536, 0);
        keeps(1, -32769, 32767);
        keeps(2, Edge.MOST, Edge.MOST);
        keeps(2, 1L << 31, Edge.LEAST);
        keeps(2, (1L << 32) - 1, -1);
        keeps(2, 1L << 32, 0);
        keeps(2, -(1L << 31) - 1, Edge.MOST);
        keeps(3, Long.MAX_VALUE, Long.MAX_VALUE);
        keeps(3, Long.MIN_VALUE, Long.MIN_VALUE);
        keeps(3, 1L << 32, 1L << 32);
        keeps(4, 0, 0);
        keeps(4, 1, 1);
        keeps(4, 2, 1);
        keeps(4, -1, 1);
        keeps(4, 256, 1);
        keeps(4, 1L << 32, 1);
        keeps(4, Long.MIN_VALUE, 1);
    }

    private static void keeps(int sort, long v, long due) {
        FameAhead x = new FameAhead();
        x.row(2, sort, 3);
        Edge.is("put " + v, x.put(2, 1, v), 1);
        Edge.is("element of sort " + sort + " behind " + v, x.element(2, 1), due);
        Edge.is("the place ahead", x.element(2, 0), 0);
        Edge.is("the place behind", x.element(2, 2), 0);
        x.put(2, 1, 0);
        Edge.is("0 again", x.element(2, 1), 0);
    }

    private static void refusals() {
        Edge.says(0, "The host's REFUSALS: -11 nothing is there where something is wanted; -12 it is of another kind;"
            + " -13 a place that is not there; -14 a size below 0.");
        Edge.refused("an element of nothing", Edge.NOTHING, World::furnished, y -> y.put(4, 0, 1));
        Edge.refused("an element of a WORD", Edge.OTHER_KIND, World::furnished, y -> y.put(3, 0, 1));
        Edge.refused("an element behind the last", Edge.NO_PLACE, World::furnished, y -> y.put(0, 3, 1));
        Edge.refused("a ROW of -1", Edge.NO_SIZE, World::furnished, y -> y.row(0, 0, -1));
    }

    private static FameAhead twoTowns() {
        return Due.land(2, 0);
    }

    private static void deedsFromARow() {
        Edge.says(0, "DEEDS FROM A ROW of shorts, from a place on: by fives WHO, TOWN, HOUR, MARK, WEIGHT: n of them");
        FameAhead x = twoTowns();
        Due.lay(x, 0, 1, 0, 0, 0, 0, 1, 3, 1, 999, 4, 9, 1, 0, 7, 2, 3);
        Edge.is("one", x.deeds(0, 0, 1), 1);
        Edge.is("count(2)", x.count(2), 1);
        Edge.is("one from the second five on", x.deeds(0, 5, 1), 1);
        Edge.is("three", x.deeds(0, 0, 3), 3);
        Edge.is("count(2)", x.count(2), 5);
        int[][] due = {{0, 0, 0, 0, 1}, {3, 1, 999, 4, 9}, {0, 0, 0, 0, 1}, {3, 1, 999, 4, 9}, {1, 0, 7, 2, 3}};
        int[] whats = {9, 10, 3, 4, 5};
        for (int deed = 0; deed < 5; deed++) {
            for (int k = 0; k < 5; k++) {
                Edge.is("DEED " + deed + " of what " + whats[k], x.of(deed, whats[k]), due[deed][k]);
            }
        }
        Edge.is("they are no changes", x.count(4), 0);
        Edge.is("nor done in deed", x.led(3), 0);
    }

    private static void rowsThatEnd() {
        Edge.says(0, "it ends where the row is missing, ends (within a five, too), one is not so, or DEEDS are FULL: those ahead came.");
        for (int n = 0; n <= 15; n++) {
            FameAhead x = twoTowns();
            x.row(0, 1, n);
            for (int i = 4; i < n; i += 5) {
                x.put(0, i, 1);
            }
            Edge.is("ten from a ROW of " + n, x.deeds(0, 0, 10), n / 5);
            Edge.is("count(2)", x.count(2), n / 5);
        }
        FameAhead x = twoTowns();
        Due.lay(x, 0, 1, 7, 0, 0, 0, 0, 1, 0, 0, 0, 0, 2);
        Edge.is("from the last five on", x.deeds(0, 6, 10), 1);
        Edge.is("from within the last five on", x.deeds(0, 7, 10), 0);
        Edge.is("from its end on", x.deeds(0, 11, 10), 0);
        Edge.is("from behind its end on", x.deeds(0, 12, 10), 0);
        Edge.is("from far behind its end on", x.deeds(0, Edge.MOST, 10), 0);
        Edge.is("from ahead of its beginning on", x.deeds(0, -1, 10), 0);
        Edge.is("from five ahead on", x.deeds(0, -5, 10), 0);
        Edge.is("from far ahead on", x.deeds(0, Edge.LEAST, 10), 0);
        Edge.is("a row that is missing", x.deeds(1, 0, 10), 0);
        Edge.is("a row that is missing, from -1 on", x.deeds(1, -1, 10), 0);
        x.row(2, 1, 0);
        Edge.is("a row of none", x.deeds(2, 0, 10), 0);
        Edge.is("count(2)", x.count(2), 1);
        FameAhead y = twoTowns();
        y.row(3, 1, 60);
        Due.lay(y, 4, 1, 5, 5, 5);
        for (int i = 55; i < 60; i++) {
            Edge.is("the next SHELF does not go on, from " + i, y.deeds(3, i, 1), 0);
        }
        y.put(3, 59, 5);
        Edge.is("the last five of sixty", y.deeds(3, 55, 2), 1);
    }

    private static void deedsThatAreNotSo() {
        int[][] wrong = {{4, 0, 0, 0, 1}, {-1, 0, 0, 0, 1}, {0, 2, 0, 0, 1}, {0, -1, 0, 0, 1}, {0, 0, 1000, 0, 1},
            {0, 0, -1, 0, 1}, {0, 0, 0, 5, 1}, {0, 0, 0, -1, 1}, {0, 0, 0, 0, 0}, {0, 0, 0, 0, 10}, {0, 0, 0, 0, -1}};
        for (int[] five : wrong) {
            FameAhead x = twoTowns();
            Due.lay(x, 0, 1, 3, 1, 999, 4, 9, five[0], five[1], five[2], five[3], five[4], 2, 1, 5, 1, 5);
            Edge.is("the second of three is not so", x.deeds(0, 0, 3), 1);
            Edge.is("at once one that is not so", x.deeds(0, 5, 2), 0);
            Edge.is("one behind it", x.deeds(0, 10, 2), 1);
            Edge.is("count(2)", x.count(2), 2);
            Edge.is("WHO of the first", x.of(0, 9), 3);
            Edge.is("WHO of the second", x.of(1, 9), 2);
        }
        FameAhead x = new FameAhead();
        Due.lay(x, 0, 1, 0, 0, 0, 0, 1);
        Edge.is("no TOWN is there", x.deeds(0, 0, 1), 0);
    }

    private static void deedsThatAreFull() {
        FameAhead x = twoTowns();
        x.row(0, 1, 60);
        for (int i = 4; i < 60; i += 5) {
            x.put(0, i, 1 + i / 10);
        }
        Edge.is("ten of twelve fives", x.deeds(0, 0, 10), 10);
        Edge.is("FULL", x.deeds(0, 0, 10), 0);
        Edge.is("count(2)", x.count(2), 10);
        FameAhead y = twoTowns();
        y.row(0, 1, 60);
        for (int i = 4; i < 60; i += 5) {
            y.put(0, i, 1);
        }
        for (int i = 0; i < 7; i++) {
            y.deed(34, 0, 9);
        }
        Edge.is("three till FULL", y.deeds(0, 0, 10), 3);
        Edge.is("those ahead stay", y.of(6, 5), 9);
        Edge.is("the last that came", y.of(9, 5), 1);
    }

    private static void deedsAskedFor() {
        Edge.says(5, "DEEDS FROM A ROW on a SHELF, from place i on, n (1 .. 10) of them: how many came. BAD, -12 (no ROW of shorts; a SHELF"
            + " that holds nothing is missing).");
        int[] numbers = {-1, 0, 11, Edge.LEAST, Edge.MOST};
        Edge.refusedEach("deeds, shelf", Edge.BAD, World.NO_SHELF, (y, v) -> y.deeds(v, 0, 1));
        Edge.refusedEach("deeds, n", Edge.BAD, numbers, (y, v) -> y.deeds(1, 0, v));
        Edge.refusedEach("deeds, bytes, ints, a WORD, longs", Edge.OTHER_KIND, new int[] {0, 2, 3, 5}, (y, v) -> y.deeds(v, 0, 1));
        Edge.refused("deeds, booleans", Edge.OTHER_KIND, y -> { World.furnished(y); y.row(4, 4, 5); }, y -> y.deeds(4, 0, 1));
        Edge.refusedEach("BAD ahead of -12, shelf", Edge.BAD, new int[] {0, 3, 4}, (y, v) -> y.deeds(v, 0, 0));
        Edge.refusedEach("-12 from a place that is not there", Edge.OTHER_KIND, new int[] {-1, 60, Edge.LEAST, Edge.MOST},
            (y, v) -> y.deeds(0, v, 1));
        Edge.refusedEach("nothing is there", 0, new int[] {0, -1, Edge.LEAST, Edge.MOST}, (y, v) -> y.deeds(4, v, 10));
        Edge.refusedEach("none came from place", 0, new int[] {1, 5, 9, 10, -1, -5, Edge.LEAST, Edge.MOST}, (y, v) -> y.deeds(1, v, 10));
        Edge.refused("FULL", 0, y -> { World.full(y); Due.lay(y, 0, 1, 0, 0, 0, 0, 1); }, y -> y.deeds(0, 0, 1));
        FameAhead x = new FameAhead();
        World.furnished(x);
        Edge.is("the one five that is whole", x.deeds(1, 0, 10), 1);
        Edge.is("count(2)", x.count(2), 7);
    }

    private static void keepAskedFor() {
        Edge.says(39, "A SHELF holds nothing (body -1), or a WORD: 1. BAD.");
        int[] bodies = {-2, 8, 50, Edge.LEAST, Edge.MOST};
        Edge.refusedEach("keep, shelf", Edge.BAD, World.NO_SHELF, (y, v) -> y.keep(v, 0));
        Edge.refusedEach("keep nothing, shelf", Edge.BAD, World.NO_SHELF, (y, v) -> y.keep(v, -1));
        for (int shelf = 0; shelf < 6; shelf++) {
            int asked = shelf;
            Edge.refusedEach("keep on SHELF " + shelf + ", body", Edge.BAD, bodies, (y, v) -> y.keep(asked, v));
        }
        Edge.refused("nothing instead of nothing", 1, World::furnished, y -> y.keep(4, -1));
        FameAhead x = new FameAhead();
        World.furnished(x);
        Edge.is("the first WORD instead of a ROW", x.keep(0, 0), 1);
        Edge.is("it", x.taken(0, 0), 0);
        Edge.is("the last WORD instead of another", x.keep(3, 7), 1);
        Edge.is("it", x.taken(3, 0), 7);
        Edge.is("nothing instead of a ROW", x.keep(5, -1), 1);
        Edge.is("it", x.taken(5, 0), Edge.NOTHING);
        Edge.is("where no WORD is", new FameAhead().keep(0, 0), Edge.BAD);
    }

    private static void rowAskedFor() {
        Edge.says(40, "A SHELF holds a ROW: 1. BAD (sort, n above 60); -14.");
        Edge.refusedEach("row, shelf", Edge.BAD, World.NO_SHELF, (y, v) -> y.row(v, 0, 1));
        for (int shelf = 0; shelf < 6; shelf++) {
            int asked = shelf;
            Edge.refusedEach("row, sort", Edge.BAD, new int[] {-1, 5, Edge.LEAST, Edge.MOST}, (y, v) -> y.row(asked, v, 1));
            Edge.refusedEach("row, n above", Edge.BAD, new int[] {61, 100, Edge.MOST}, (y, v) -> y.row(asked, 0, v));
            Edge.refusedEach("row, n below", Edge.NO_SIZE, new int[] {-1, -60, Edge.LEAST}, (y, v) -> y.row(asked, 4, v));
        }
        Edge.refused("BAD ahead of -14, shelf", Edge.BAD, World::furnished, y -> y.row(6, 0, -1));
        Edge.refused("BAD ahead of -14, sort", Edge.BAD, World::furnished, y -> y.row(0, 5, -1));
    }

    private static void putAskedFor() {
        Edge.says(41, "Element i of a ROW becomes v: 1. BAD, -11, -12, -13.");
        int[] places = {-1, 3, 59, 60, Edge.LEAST, Edge.MOST};
        Edge.refusedEach("put, shelf", Edge.BAD, World.NO_SHELF, (y, v) -> y.put(v, 0, 9));
        Edge.refusedEach("put, bytes, place", Edge.NO_PLACE, places, (y, v) -> y.put(0, v, 9));
        Edge.refusedEach("put, longs, place", Edge.NO_PLACE, new int[] {-1, 2, 3}, (y, v) -> y.put(5, v, 9));
        Edge.refusedEach("-11 ahead of -13, place", Edge.NOTHING, places, (y, v) -> y.put(4, v, 9));
        Edge.refusedEach("-12 ahead of -13, place", Edge.OTHER_KIND, places, (y, v) -> y.put(3, v, 9));
        Edge.refusedEach("BAD ahead of -13, shelf", Edge.BAD, World.NO_SHELF, (y, v) -> y.put(v, -1, 9));
        FameAhead x = new FameAhead();
        World.furnished(x);
        Edge.is("the first", x.put(0, 0, 9), 1);
        Edge.is("the last", x.put(0, 2, 8), 1);
        Edge.is("the first is so", x.element(0, 0), 9);
        Edge.is("the last is so", x.element(0, 2), 8);
    }

    private static void elementAskedFor() {
        Edge.says(42, "Element i of a ROW; Long.MIN_VALUE: BAD, -11 to -13.");
        int[] places = {-1, 3, 59, 60, Edge.LEAST, Edge.MOST};
        Edge.refusedEach("element, shelf", Long.MIN_VALUE, World.NO_SHELF, (y, v) -> y.element(v, 0));
        Edge.refusedEach("element of nothing, place", Long.MIN_VALUE, places, (y, v) -> y.element(4, v));
        Edge.refused("element of nothing, place 0", Long.MIN_VALUE, World::furnished, y -> y.element(4, 0));
        Edge.refusedEach("element of a WORD, place", Long.MIN_VALUE, places, (y, v) -> y.element(3, v));
        Edge.refused("element of a WORD, place 0", Long.MIN_VALUE, World::furnished, y -> y.element(3, 0));
        Edge.refusedEach("element, place", Long.MIN_VALUE, places, (y, v) -> y.element(0, v));
        Edge.refused("the first", Long.MAX_VALUE, World::furnished, y -> y.element(5, 0));
        Edge.refused("the last", 5, World::furnished, y -> y.element(5, 1));
    }

    private static void shifting() {
        Edge.says(43, "n elements of a ROW from i on come to another one (or the same) from j on, as they all were before: n.");
        for (int sort : SORTS) {
            for (int i = 0; i < 4; i++) {
                for (int j = 0; j < 4; j++) {
                    for (int n = 0; n + Math.max(i, j) <= 4; n++) {
                        shifted(sort, i, j, n, 0);
                        shifted(sort, i, j, n, 5);
                    }
                }
            }
        }
        FameAhead z = new FameAhead();
        for (int shelf = 0; shelf < 6; shelf++) {
            Due.lay(z, shelf, 3, 10 * shelf + 1, 10 * shelf + 2);
        }
        for (int shelf = 0; shelf < 6; shelf++) {
            Edge.is("from SHELF " + shelf, z.shift(shelf, 0, (shelf + 2) % 6, 1, 1), 1);
            Edge.is("came there", z.element((shelf + 2) % 6, 1), 10 * shelf + 1);
        }
        FameAhead x = new FameAhead();
        x.row(0, 2, 60);
        x.row(1, 2, 60);
        for (int i = 0; i < 60; i++) {
            x.put(0, i, i + 1);
        }
        Edge.is("all sixty", x.shift(0, 0, 1, 0, 60), 60);
        Edge.is("the first", x.element(1, 0), 1);
        Edge.is("the last", x.element(1, 59), 60);
        Edge.is("59 in itself", x.shift(0, 0, 0, 1, 59), 59);
        Edge.is("the last", x.element(0, 59), 59);
        Edge.is("none from the end to the end", x.shift(0, 60, 1, 60, 0), 0);
    }

    /** On SHELF 0 a ROW of four; from there to a SHELF that may be the same. */
    private static void shifted(int sort, int i, int j, int n, int other) {
        FameAhead x = new FameAhead();
        long[] from = sort == 4 ? new long[] {1, 0, 1, 1} : new long[] {11, 12, 13, 14};
        long[] to = other == 0 ? from.clone() : new long[4];
        x.row(5, sort, 4);
        Due.lay(x, 0, sort, from);
        for (int k = 0; k < n; k++) {
            to[j + k] = from[i + k];
        }
        String call = "shift(0, " + i + ", " + other + ", " + j + ", " + n + ") of sort " + sort;
        Edge.is(call, x.shift(0, i, other, j, n), n);
        for (int k = 0; k < 4; k++) {
            Edge.is(call + ": element " + k, x.element(other, k), to[k]);
            Edge.is(call + ": element ahead " + k, x.element(0, k), other == 0 ? to[k] : from[k]);
        }
    }

    private static void shiftAskedFor() {
        Edge.says(43, "BAD, -11 (either), -12 (no ROWS, or of unlike sorts), -13.");
        Edge.refusedEach("shift from shelf", Edge.BAD, World.NO_SHELF, (y, v) -> y.shift(v, 0, 0, 0, 1));
        Edge.refusedEach("shift to shelf", Edge.BAD, World.NO_SHELF, (y, v) -> y.shift(0, 0, v, 0, 1));
        Edge.refusedEach("BAD ahead of -11, from shelf", Edge.BAD, World.NO_SHELF, (y, v) -> y.shift(v, 0, 4, 0, 1));
        Edge.refusedEach("BAD ahead of -11, to shelf", Edge.BAD, World.NO_SHELF, (y, v) -> y.shift(4, 0, v, 0, 1));
        Edge.refusedEach("from nothing to shelf", Edge.NOTHING, new int[] {0, 1, 2, 3, 4, 5}, (y, v) -> y.shift(4, 0, v, 0, 1));
        Edge.refusedEach("to nothing from shelf", Edge.NOTHING, new int[] {0, 1, 2, 3, 4, 5}, (y, v) -> y.shift(v, 0, 4, 0, 1));
        Edge.refusedEach("-11 ahead of -13, to shelf", Edge.NOTHING, new int[] {0, 3, 4}, (y, v) -> y.shift(4, -1, v, -1, -1));
        Edge.refusedEach("from a WORD to shelf", Edge.OTHER_KIND, new int[] {0, 1, 2, 3, 5}, (y, v) -> y.shift(3, 0, v, 0, 1));
        Edge.refusedEach("to a WORD from shelf", Edge.OTHER_KIND, new int[] {0, 1, 2, 3, 5}, (y, v) -> y.shift(v, 0, 3, 0, 1));
        Edge.refusedEach("from bytes to shelf", Edge.OTHER_KIND, new int[] {1, 2, 5}, (y, v) -> y.shift(0, 0, v, 0, 1));
        Edge.refusedEach("from longs to shelf", Edge.OTHER_KIND, new int[] {0, 1, 2}, (y, v) -> y.shift(5, 0, v, 0, 1));
        Edge.refusedEach("none of unlike sorts", Edge.OTHER_KIND, new int[] {1, 2, 5}, (y, v) -> y.shift(0, 0, v, 0, 0));
        Edge.refusedEach("-12 ahead of -13", Edge.OTHER_KIND, new int[] {1, 2, 3, 5}, (y, v) -> y.shift(0, 9, v, 9, 9));
        // SHELF 0 holds three, SHELF 4 two bytes.
        int[][] wrong = {{-1, 0, 1}, {0, -1, 1}, {3, 0, 1}, {0, 2, 1}, {1, 0, 3}, {2, 0, 2}, {0, 0, 3}, {0, 1, 2}, {0, 0, -1},
            {4, 0, 0}, {0, 3, 0}, {-1, 0, 0}, {0, -1, 0}, {Edge.MOST, 0, 1}, {0, Edge.MOST, 1}, {0, 0, Edge.MOST},
            {1, 1, Edge.MOST}, {0, 0, Edge.LEAST}, {Edge.LEAST, 0, 1}, {0, Edge.LEAST, 1}, {Edge.MOST, Edge.MOST, Edge.MOST}};
        for (int[] c : wrong) {
            String call = "shift(0, " + c[0] + ", 4, " + c[1] + ", " + c[2] + ")";
            Edge.refused(call, Edge.NO_PLACE, EdgesOfShelves::twoRowsOfBytes, y -> y.shift(0, c[0], 4, c[1], c[2]));
        }
        Edge.refused("none from the end to the end", 0, EdgesOfShelves::twoRowsOfBytes, y -> y.shift(0, 3, 4, 2, 0));
        Edge.refused("in itself beyond its end", Edge.NO_PLACE, World::furnished, y -> y.shift(0, 0, 0, 1, 3));
    }

    private static void twoRowsOfBytes(FameAhead x) {
        World.furnished(x);
        Due.lay(x, 4, 0, 8, 9);
    }

    private static void takenAskedFor() {
        Edge.says(44, "What a SHELF holds, taken for a WORD of KIND k (0 .. 7), or under it: its KIND. BAD, -11, -12.");
        int[] kinds = {-1, 8, Edge.LEAST, Edge.MOST};
        Edge.refusedEach("taken, shelf", Edge.BAD, World.NO_SHELF, (y, v) -> y.taken(v, 0));
        for (int shelf = 0; shelf < 6; shelf++) {
            int asked = shelf;
            Edge.refusedEach("BAD ahead of -11 and -12, SHELF " + shelf + ", k", Edge.BAD, kinds, (y, v) -> y.taken(asked, v));
        }
        Edge.refusedEach("nothing taken for KIND", Edge.NOTHING, new int[] {0, 1, 7}, (y, v) -> y.taken(4, v));
        Edge.refusedEach("a ROW of SHELF", Edge.OTHER_KIND, new int[] {0, 1, 2, 5}, (y, v) -> y.taken(v, 0));
        // SHELF 3 holds a SAINT.
        Edge.refusedEach("a SAINT taken for KIND", 5, new int[] {0, 2, 3, 5}, (y, v) -> y.taken(3, v));
        Edge.refusedEach("a SAINT taken for KIND", Edge.OTHER_KIND, new int[] {1, 4, 6, 7}, (y, v) -> y.taken(3, v));
    }
}

/** Promises 39 to 44: SHELVES, their ROWS and WORDS. */
public final class ShelfTest {
    public static void main(String[] args) {
        keep();
        row();
        put();
        element();
        shift();
        shiftRefusals();
        taken();
        Due.close();
    }

    private static void keep() {
        FameAhead x = new FameAhead();
        Due.is("no such WORD", x.keep(0, 0), -1);
        x.body(3);
        Due.is("keep", x.keep(0, 0), 1);
        Due.is("it holds it", x.taken(0, 0), 3);
        Due.is("keep(0, 1)", x.keep(0, 1), -1);
        Due.is("keep(0, -2)", x.keep(0, -2), -1);
        Due.is("keep(6, 0)", x.keep(6, 0), -1);
        Due.is("keep(-1, 0)", x.keep(-1, 0), -1);
        Due.is("keep(6, -1)", x.keep(6, -1), -1);
        Due.is("still there", x.taken(0, 0), 3);
        Due.is("nothing", x.keep(0, -1), 1);
        Due.is("nothing is there", x.taken(0, 0), -11);
        x.row(5, 0, 3);
        x.keep(5, 0);
        Due.is("instead of a ROW", x.taken(5, 3), 3);
    }

    private static void row() {
        FameAhead x = new FameAhead();
        Due.is("shelf -1", x.row(-1, 0, 1), -1);
        Due.is("shelf 6", x.row(6, 0, 1), -1);
        Due.is("sort -1", x.row(0, -1, 1), -1);
        Due.is("sort 5", x.row(0, 5, 1), -1);
        Due.is("n 61", x.row(0, 0, 61), -1);
        Due.is("n -1", x.row(0, 0, -1), -14);
        Due.is("n least", x.row(0, 0, Integer.MIN_VALUE), -14);
        Due.is("a bad sort ahead of n -1", x.row(0, 5, -1), -1);
        Due.is("nothing came", x.element(0, 0), Long.MIN_VALUE);
        Due.is("n 0", x.row(0, 0, 0), 1);
        Due.is("no place", x.element(0, 0), Long.MIN_VALUE);
        Due.is("n 60", x.row(0, 4, 60), 1);
        Due.is("the last", x.element(0, 59), 0);
        Due.is("behind the last", x.element(0, 60), Long.MIN_VALUE);
        x.put(0, 59, 1);
        x.row(0, 3, 60);
        Due.is("0 at first", x.element(0, 59), 0);
    }

    private static void put() {
        FameAhead x = new FameAhead();
        long[] due = {(byte) 0xF1E2D3C4B5A69788L, (short) 0xF1E2D3C4B5A69788L, (int) 0xF1E2D3C4B5A69788L, 0xF1E2D3C4B5A69788L, 1};
        for (int sort = 0; sort < 5; sort++) {
            x.row(sort, sort, 2);
            Due.is("put", x.put(sort, 1, 0xF1E2D3C4B5A69788L), 1);
            Due.is("its lowest bits", x.element(sort, 1), due[sort]);
            Due.is("the other place", x.element(sort, 0), 0);
            x.put(sort, 1, 1L << 40);
            Due.is("a high bit", x.element(sort, 1), sort == 3 ? 1L << 40 : sort == 4 ? 1 : 0);
            x.put(sort, 1, 0);
            Due.is("0", x.element(sort, 1), 0);
        }
        Due.is("shelf -1", x.put(-1, 0, 1), -1);
        Due.is("shelf 6", x.put(6, 0, 1), -1);
        Due.is("nothing there", x.put(5, -1, 1), -11);
        x.body(0);
        x.keep(5, 0);
        Due.is("a WORD", x.put(5, -1, 1), -12);
        Due.is("place -1", x.put(0, -1, 1), -13);
        Due.is("place 2", x.put(0, 2, 1), -13);
        Due.is("place most", x.put(0, Integer.MAX_VALUE, 1), -13);
    }

    private static void element() {
        FameAhead x = new FameAhead();
        Due.is("shelf -1", x.element(-1, 0), Long.MIN_VALUE);
        Due.is("shelf 6", x.element(6, 0), Long.MIN_VALUE);
        Due.is("nothing there", x.element(0, 0), Long.MIN_VALUE);
        x.body(0);
        x.keep(0, 0);
        Due.is("a WORD", x.element(0, 0), Long.MIN_VALUE);
        x.row(0, 3, 3);
        x.put(0, 2, -1);
        Due.is("place -1", x.element(0, -1), Long.MIN_VALUE);
        Due.is("place 3", x.element(0, 3), Long.MIN_VALUE);
        Due.is("place least", x.element(0, Integer.MIN_VALUE), Long.MIN_VALUE);
        Due.is("place most", x.element(0, Integer.MAX_VALUE), Long.MIN_VALUE);
        Due.is("a place of a SHELF behind", x.element(0, 60), Long.MIN_VALUE);
        Due.is("an element", x.element(0, 2), -1);
    }

    private static void shift() {
        FameAhead x = new FameAhead();
        Due.lay(x, 0, 2, 1, 2, 3, 4, 5);
        Due.lay(x, 1, 2, 9, 9, 9);
        Due.is("to another", x.shift(0, 1, 1, 0, 2), 2);
        holds(x, 1, 2, 3, 9);
        holds(x, 0, 1, 2, 3, 4, 5);
        Due.is("ahead in itself", x.shift(0, 0, 0, 1, 4), 4);
        holds(x, 0, 1, 1, 2, 3, 4);
        Due.is("back in itself", x.shift(0, 1, 0, 0, 4), 4);
        holds(x, 0, 1, 2, 3, 4, 4);
        Due.is("none", x.shift(0, 5, 1, 3, 0), 0);
        Due.is("all", x.shift(1, 0, 0, 2, 3), 3);
        holds(x, 0, 1, 2, 2, 3, 9);
        holds(x, 1, 2, 3, 9);
    }

    private static void holds(FameAhead x, int shelf, long... elements) {
        for (int i = 0; i < elements.length; i++) {
            Due.is("element(" + shelf + ", " + i + ")", x.element(shelf, i), elements[i]);
        }
        Due.is("elements", x.element(shelf, elements.length), Long.MIN_VALUE);
    }

    private static void shiftRefusals() {
        FameAhead x = new FameAhead();
        Due.lay(x, 0, 2, 1, 2, 3);
        Due.lay(x, 1, 2, 9, 9);
        Due.lay(x, 2, 1, 9, 9);
        x.body(0);
        x.keep(3, 0);
        int[][] calls = {{-1, 0, 0, 0, 1}, {0, 0, 6, 0, 1}, {6, 0, 0, 0, 1}, {0, 0, -1, 0, 1},
            {4, 0, 0, 0, 1}, {0, 0, 4, 0, 1}, {3, 0, 4, 0, 1}, {4, 0, 3, 0, 1},
            {0, 0, 3, 0, 1}, {3, 0, 0, 0, 1}, {3, 0, 3, 0, 1}, {0, 0, 2, 0, 1}, {2, 0, 0, 0, 1}, {0, 5, 2, 0, 1},
            {0, -1, 1, 0, 1}, {0, 0, 1, -1, 1}, {0, 2, 1, 0, 2}, {0, 0, 1, 1, 2}, {0, 0, 1, 0, -1}, {0, 4, 1, 0, 0},
            {0, 0, 1, 3, 0}, {0, 1, 1, 0, Integer.MAX_VALUE}, {0, Integer.MAX_VALUE, 1, 0, 1},
            {0, 0, 1, Integer.MAX_VALUE, 1}, {0, 0, 1, 0, Integer.MIN_VALUE}, {0, 0, 1, 0, 3}};
        int[] due = {-1, -1, -1, -1, -11, -11, -11, -11, -12, -12, -12, -12, -12, -12,
            -13, -13, -13, -13, -13, -13, -13, -13, -13, -13, -13, -13};
        for (int i = 0; i < calls.length; i++) {
            int[] c = calls[i];
            Due.is("shift of case " + i, x.shift(c[0], c[1], c[2], c[3], c[4]), due[i]);
        }
        holds(x, 0, 1, 2, 3);
        holds(x, 1, 9, 9);
    }

    private static void taken() {
        FameAhead x = new FameAhead();
        int[] above = {-1, 0, 0, 2, 1, 3, 0, 4};
        for (int kind = 0; kind < 8; kind++) {
            x.body(kind);
            x.keep(0, kind);
            boolean[] is = new boolean[8];
            for (int at = kind; at >= 0; at = above[at]) {
                is[at] = true;
            }
            for (int k = 0; k < 8; k++) {
                Due.is("KIND " + kind + " taken for " + k, x.taken(0, k), is[k] ? kind : -12);
            }
        }
        Due.is("KIND 8", x.taken(0, 8), -1);
        Due.is("KIND -1", x.taken(0, -1), -1);
        Due.is("shelf 6", x.taken(6, 0), -1);
        Due.is("shelf -1", x.taken(-1, 0), -1);
        Due.is("nothing there", x.taken(1, 0), -11);
        x.row(1, 0, 1);
        Due.is("a ROW", x.taken(1, 0), -12);
    }
}

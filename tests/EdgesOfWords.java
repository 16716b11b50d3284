/** BODIES, ACTS and THE TRACE in head 5, and promises 36 to 38. */
final class EdgesOfWords {
    private static final int[] XS = {0, 1, -1, 1000000007, Edge.LEAST, Edge.MOST};

    private EdgesOfWords() {
    }

    static void run() {
        bodies();
        wrapping();
        bodiesOfActs();
        above();
        trace();
        bodyAskedFor();
        actAskedFor();
        traceAskedFor();
    }

    /** An object with a WORD of each KIND; its number is its KIND. */
    private static FameAhead kinds() {
        FameAhead x = new FameAhead();
        for (int kind = 0; kind < 8; kind++) {
            x.body(kind);
        }
        return x;
    }

    private static void bodies() {
        Edge.says(0, "WORDS' ways are kept by call as BODIES 0 .. 49, of KINDS: 0 WORD; 1 CARTER under WORD; 2 FEET under WORD; 3 INN under"
            + " FEET; 4 TWIN under CARTER; 5 SAINT under INN; 6 LETTER under WORD; 7 NOBODY under TWIN.");
        FameAhead x = new FameAhead();
        for (int i = 0; i < 50; i++) {
            Edge.is("body", x.body(7 - i % 8), i);
        }
        for (int i = 0; i < 50; i++) {
            x.keep(0, i);
            Edge.is("KIND of BODY " + i, x.taken(0, 0), 7 - i % 8);
        }
        boolean[][] under = new boolean[8][8];
        int[][] pairs = {{1, 0}, {2, 0}, {3, 2}, {3, 0}, {4, 1}, {4, 0}, {5, 3}, {5, 2}, {5, 0}, {6, 0}, {7, 4}, {7, 1}, {7, 0}};
        for (int[] pair : pairs) {
            under[pair[0]][pair[1]] = true;
        }
        FameAhead y = kinds();
        for (int kind = 0; kind < 8; kind++) {
            y.keep(0, kind);
            for (int k = 0; k < 8; k++) {
                boolean is = k == kind || under[kind][k];
                Edge.is("KIND " + kind + " taken for " + k, y.taken(0, k), is ? kind : Edge.OTHER_KIND);
            }
        }
    }

    private static void wrapping() {
        Edge.says(0, "ACTS with x (an int that wraps): 0 goes, 1 says, 2 fades, 3 tells; n its number.");
        FameAhead x = new FameAhead();
        x.body(0);
        x.body(0);
        Edge.is("goes by MOST", x.act(1, 0, Edge.MOST), Edge.LEAST);
        Edge.is("goes by LEAST", x.act(1, 0, Edge.LEAST), Edge.LEAST + 1);
        Edge.is("says by MOST", x.act(1, 1, Edge.MOST), 0);
        Edge.is("says by half", x.act(0, 1, 1 << 30), Edge.LEAST);
        Edge.is("fades by LEAST", x.act(1, 2, Edge.LEAST), Edge.LEAST + 1);
        Edge.is("tells by MOST", x.act(0, 3, Edge.MOST), -3);
        x.body(2);
        Edge.is("FEET say LEAST by half", x.act(2, 1, (1 << 30) - 2), Edge.LEAST);
        FameAhead y = new FameAhead();
        for (int i = 0; i < 50; i++) {
            y.body(0);
        }
        Edge.is("n of the first", y.act(0, 0, 5), 5);
        Edge.is("n of the last", y.act(49, 0, 5), 54);
        Edge.is("n of the last, fading", y.act(49, 2, 0), 49);
    }

    private static void bodiesOfActs() {
        Edge.says(0, "GOES (an interface of WORD): 1 goes: x + n. WORD: 10 says: goes(x) * 2. 11 fades: x ^ n. TELLS (of WORD):"
            + " 2 tells: says(x) - fades(1). CARTER: 20 goes: super.goes(x) + 3. FEET: 30 says: -super.says(x). INN: 40 fades:"
            + " super.fades(x) * 3. 41 says: super.says(x + 1). TWIN: 50 fades: super.fades(x) - goes(2). SAINT: 60 tells:"
            + " super.tells(x) ^ 5. LETTER: 70 goes: super.goes(x) * 2. NOBODY: 80 says: super.says(x) + fades(2). 81 tells:"
            + " super.tells(x) - 1.");
        FameAhead x = kinds();
        for (int v : XS) {
            acts(x, 0, v, v, v * 2, v, v * 2 - 1);
            acts(x, 1, v, v + 4, (v + 4) * 2, v ^ 1, (v + 4) * 2 - 0);
            acts(x, 2, v, v + 2, -((v + 2) * 2), v ^ 2, -((v + 2) * 2) - 3);
            acts(x, 3, v, v + 3, -((v + 4) * 2), (v ^ 3) * 3, -((v + 4) * 2) - 6);
            acts(x, 4, v, v + 7, (v + 7) * 2, (v ^ 4) - 9, (v + 7) * 2 - (5 - 9));
            acts(x, 5, v, v + 5, -((v + 6) * 2), (v ^ 5) * 3, (-((v + 6) * 2) - 12) ^ 5);
            acts(x, 6, v, (v + 6) * 2, (v + 6) * 4, v ^ 6, (v + 6) * 4 - 7);
            int says = (v + 10) * 2 + ((2 ^ 7) - 12);
            acts(x, 7, v, v + 10, says, (v ^ 7) - 12, says - ((1 ^ 7) - 12) - 1);
        }
    }

    private static void acts(FameAhead x, int body, int v, int... due) {
        for (int act = 0; act < 4; act++) {
            Edge.is("KIND " + body + ": act " + act + " with " + v, x.act(body, act, v), due[act]);
        }
    }

    private static void above() {
        Edge.says(0, "goes(..) and so on: the body of its own KIND, or of the next KIND above that has one; super: from the KIND above the"
            + " body's on.");
        FameAhead x = kinds();
        ran(x, 0, 0, 1);
        ran(x, 0, 3, 2, 10, 1, 11);
        ran(x, 1, 1, 10, 20, 1);
        ran(x, 2, 1, 30, 10, 1);
        ran(x, 3, 1, 41, 30, 10, 1);
        ran(x, 3, 2, 40, 11);
        ran(x, 3, 3, 2, 41, 30, 10, 1, 40, 11);
        ran(x, 4, 0, 20, 1);
        ran(x, 4, 2, 50, 11, 20, 1);
        ran(x, 5, 2, 40, 11);
        ran(x, 6, 1, 10, 70, 1);
        ran(x, 6, 2, 11);
        ran(x, 7, 0, 20, 1);
        ran(x, 7, 2, 50, 11, 20, 1);
    }

    private static void ran(FameAhead x, int body, int act, int... due) {
        x.act(body, act, 5);
        Edge.is("KIND " + body + ", act " + act + ": count(6)", x.count(6), due.length);
        for (int i = 0; i < due.length; i++) {
            Edge.is("KIND " + body + ", act " + act + ": trace(" + i + ")", x.trace(i), due[i]);
        }
        Edge.is("KIND " + body + ", act " + act + ": trace behind the last", x.trace(due.length), Edge.BAD);
    }

    private static void trace() {
        Edge.says(0, "THE TRACE: numbers of the bodies that ran in the latest act(), as they began; the first 24 are kept.");
        FameAhead x = kinds();
        // The longest that any act() tells: fourteen bodies, so that all are kept.
        ran(x, 7, 3, 81, 2, 80, 10, 20, 1, 50, 11, 20, 1, 50, 11, 20, 1);
        Edge.is("trace(23)", x.trace(23), Edge.BAD);
        Edge.is("trace(24)", x.trace(24), Edge.BAD);
        ran(x, 5, 3, 60, 2, 41, 30, 10, 1, 40, 11);
        ran(x, 0, 2, 11);
        Edge.is("of a new object", new FameAhead().trace(0), Edge.BAD);
    }

    private static void bodyAskedFor() {
        Edge.says(36, "A WORD of a KIND (0 .. 7) is kept: its number. BAD, FULL.");
        int[] wrong = {-1, 8, 9, Edge.LEAST, Edge.MOST};
        FameAhead x = new FameAhead();
        Edge.is("KIND 7", x.body(7), 0);
        Edge.is("KIND 0", x.body(0), 1);
        Edge.refusedEach("body", Edge.BAD, wrong, (y, v) -> y.body(v));
        Edge.refused("a fifty-first", Edge.FULL, World::full, y -> y.body(0));
        Edge.refused("a fifty-first of KIND 8", Edge.BAD, World::full, y -> y.body(8));
        Edge.refused("a fifty-first of KIND -1", Edge.BAD, World::full, y -> y.body(-1));
    }

    private static void actAskedFor() {
        Edge.says(37, "An ACT (0 .. 3) of a WORD with x. 0, and no TRACE then: no such WORD, ACT.");
        int[][] wrong = {{8, 0}, {-1, 0}, {50, 0}, {Edge.LEAST, 0}, {Edge.MOST, 0}, {0, 4}, {0, -1}, {7, Edge.LEAST},
            {7, Edge.MOST}, {8, 4}};
        for (int[] call : wrong) {
            FameAhead x = kinds();
            x.act(7, 3, 5);
            Edge.is("act(" + call[0] + ", " + call[1] + ", 5)", x.act(call[0], call[1], 5), 0);
            Edge.is("no TRACE then", x.trace(0), Edge.BAD);
            Edge.is("none ran", x.count(6), 0);
            Edge.is("BODIES stay", x.count(5), 8);
            Edge.is("an act behind it", x.act(7, 0, 5), 15);
            Edge.is("its TRACE", x.trace(0), 20);
        }
        Edge.is("where no WORD is", new FameAhead().act(0, 0, 5), 0);
        Edge.refused("but for THE TRACE it changes nothing", 0, EdgesOfWords::furnishedWithoutTrace, y -> y.act(8, 0, 5));
    }

    private static void furnishedWithoutTrace(FameAhead x) {
        World.furnished(x);
        x.act(-1, 0, 0);
    }

    private static void traceAskedFor() {
        Edge.says(38, "THE TRACE's i-th body. BAD.");
        // In the furnished land a SAINT told: eight bodies.
        int[] wrong = {-1, 8, 23, 24, 25, Edge.LEAST, Edge.MOST};
        Edge.refusedEach("trace", Edge.BAD, wrong, (y, v) -> y.trace(v));
        Edge.refused("the first", 60, World::furnished, y -> y.trace(0));
        Edge.refused("the last", 11, World::furnished, y -> y.trace(7));
    }
}

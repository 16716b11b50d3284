/** Promises 18 to 22: NEEDS, LATEST, CUT, FREE, ALIKE. */
public final class ThoughtTest {
    public static void main(String[] args) {
        needs();
        needsByALaw();
        latest();
        cut();
        cutOfLikeOnes();
        free();
        alike();
        mixed();
        Due.close();
    }

    private static FameAhead road() {
        FameAhead x = Due.land(3, 0);
        x.road(1, 8);
        return x;
    }

    private static void needs() {
        FameAhead x = road();
        Due.is("WEIGHT 9", x.needs(0, 0, 1004, 35), 9);
        Due.is("WEIGHT 1", x.needs(0, 0, 1004, 3), 1);
        Due.is("WEIGHT 2", x.needs(0, 0, 1004, 4), 2);
        Due.is("too LOUD", x.needs(0, 0, 1004, 36), -2);
        Due.is("the same TOWN", x.needs(0, 5, 5, 36), 9);
        Due.is("not HEARD yet", x.needs(0, 0, 1003, 1), -2);
        Due.is("never HEARD", x.needs(0, 0, 2999, 1), -2);
        Due.is("at hour 0 of another TOWN", x.needs(0, 0, 1000, 1), -2);
        Due.is("both at hour 0 of a TOWN", x.needs(0, 1000, 1000, 36), 9);
        x.deed(0, 0, 9);
        Due.is("SAID already", x.needs(0, 900, 1010, 35), 1);
        Due.is("another MARK isn't", x.needs(1, 900, 1010, 35), -2);
        Due.is("another one isn't", x.needs(10, 900, 1010, 35), -2);
        Due.is("SAID at hour 0 in its own TOWN alone", x.needs(0, 900, 1000, 1), -2);
        Due.is("it is in thought", x.count(2), 1);
        int[][] wrong = {{5, 0, 0, 1}, {40, 0, 0, 1}, {-1, 0, 0, 1}, {0, 3000, 0, 1}, {0, -1, 0, 1}, {0, 0, 3000, 1},
            {0, 0, -1, 1}, {0, 0, 0, 0}, {0, 0, 0, 100}};
        for (int[] call : wrong) {
            Due.is("needs", x.needs(call[0], call[1], call[2], call[3]), -1);
        }
        for (int i = 0; i < 9; i++) {
            x.deed(33, 0, 1);
        }
        Due.is("though DEEDS are FULL", x.needs(20, 0, 1004, 35), 9);
    }

    private static void needsByALaw() {
        FameAhead x = road();
        Due.tell(x, "w=4?20+p*10+m;w=7?40");
        Due.is("no WEIGHT less", x.needs(0, 0, 0, 20), 4);
        Due.is("the one above", x.needs(0, 0, 0, 21), 7);
        Due.is("by its MARK", x.needs(1, 0, 0, 21), 4);
        Due.is("by who it is", x.needs(24, 0, 0, 44), 4);
        Due.is("none", x.needs(0, 0, 0, 41), -2);
    }

    private static void latest() {
        FameAhead x = road();
        Due.is("in time", x.latest(0, 0, 1020, 103), 16);
        Due.is("its own TOWN", x.latest(0, 0, 20, 104), 20);
        Due.is("never LOUD enough", x.latest(0, 0, 1020, 104), -2);
        Due.is("never HEARD", x.latest(0, 0, 2999, 901), -2);
        Due.is("too early an hour", x.latest(0, 0, 1003, 901), -2);
        Due.is("hour 0", x.latest(0, 0, 1000, 901), -2);
        Due.is("hour 0 of the same TOWN", x.latest(0, 1, 1000, 901), 0);
        Due.is("just enough", x.latest(0, 0, 1004, 901), 0);
        Due.tell(x, "a>9?50;5");
        Due.is("told long enough", x.latest(0, 0, 1020, 150), 6);
        x.deed(0, 10, 1);
        Due.is("SAID already", x.latest(0, 0, 1020, 105), 999);
        x.mend(0, 3, 0);
        Due.is("SAID at hour 0 in its own TOWN alone", x.latest(0, 0, 1000, 101), -2);
        int[][] wrong = {{5, 0, 0, 101}, {-1, 0, 0, 101}, {0, 3, 0, 101}, {0, -1, 0, 101}, {0, 0, 3000, 101},
            {0, 0, -1, 101}, {0, 0, 0, 1}, {0, 0, 0, 100}, {0, 0, 0, 1001}, {0, 0, 0, -101}, {0, 0, 0, 900}};
        for (int[] call : wrong) {
            Due.is("latest", x.latest(call[0], call[1], call[2], call[3]), -1);
        }
    }

    private static void cut() {
        FameAhead x = Due.land(5, 0);
        x.road(1, 5);
        x.road(12, 5);
        x.road(2, 20);
        x.road(23, 5);
        x.deed(0, 0, 1);
        Due.is("its own TOWN", x.cut(0, 0, 0), -2);
        Due.is("its own TOWN, which", x.cut(0, 0, 1), -2);
        Due.is("not HEARD as it is", x.cut(0, 4, 0), 0);
        Due.is("not HEARD as it is, which", x.cut(0, 4, 1), 0);
        Due.is("one ROAD", x.cut(0, 3, 0), 1);
        Due.is("that", x.cut(0, 3, 1), 8);
        Due.is("two ROADS", x.cut(0, 2, 0), 2);
        Due.is("those, of like ones the least", x.cut(0, 2, 1), 5);
        Due.is("to its neighbour", x.cut(0, 1, 1), 3);
        x.mend(2, 2, 0);
        Due.is("not CARTED, not counted", x.cut(0, 2, 1), 1);
        int[][] wrong = {{1, 0, 0}, {-1, 0, 0}, {0, 5, 0}, {0, -1, 0}, {0, 0, 2}, {0, 0, -1}};
        for (int[] call : wrong) {
            Due.is("cut", x.cut(call[0], call[1], call[2]), -1);
        }
    }

    private static void cutOfLikeOnes() {
        FameAhead x = Due.land(2, 0);
        x.deed(0, 0, 1);
        for (int i = 0; i < 3; i++) {
            x.road(i == 1 ? 10 : 1, 5);
        }
        Due.is("three ROADS", x.cut(0, 1, 0), 3);
        Due.is("all three", x.cut(0, 1, 1), 7);
        x.road(1, 24);
        Due.is("four are too many", x.cut(0, 1, 0), -2);
        Due.is("four are too many, which", x.cut(0, 1, 1), -2);
        Due.is("it is in thought", x.of(0, 2), 1);
    }

    private static void free() {
        FameAhead x = road();
        x.deed(1, 0, 9);
        x.deed(11, 0, 9);
        x.deed(1, 1000, 8);
        x.deed(0, 0, 9);
        x.deed(1, 2000, 5);
        x.mend(0, 7, 20);
        Due.is("three", x.free(0, 0, 0), 3);
        Due.is("those", x.free(0, 0, 1), 1 + 4 + 16);
        Due.is("the other's", x.free(1, 0, 1), 2);
        Due.is("one with none", x.free(2, 0, 0), 0);
        x.mend(0, 7, 32);
        Due.is("two are LOUD enough", x.free(0, 0, 1), 5);
        x.mend(0, 7, 33);
        Due.is("one is", x.free(0, 0, 1), 1);
        x.mend(0, 7, 0);
        Due.is("ARREST 0", x.free(0, 0, 0), 3);
        Due.is("ARREST 0, nothing SAID", x.free(0, 999, 0), 0);
        int[][] wrong = {{4, 0, 0}, {-1, 0, 0}, {0, 1000, 0}, {0, -1, 0}, {0, 0, 2}, {0, 0, -1}};
        for (int[] call : wrong) {
            Due.is("free", x.free(call[0], call[1], call[2]), -1);
        }
    }

    private static void alike() {
        FameAhead x = road();
        x.deed(2, 0, 3);
        x.deed(12, 0, 3);
        x.deed(13, 0, 5);
        x.deed(21, 1000, 5);
        Due.is("all but one", x.alike(1, 0, 0), 4);
        Due.is("both ways", x.alike(10, 0, 0), 4);
        Due.is("not HEARD yet there", x.alike(1, 1003, 0), 5);
        Due.is("hour 0 there", x.alike(1, 1000, 0), 5);
        Due.is("MIXED at hour 0 there", x.alike(1, 1000, 2), 0);
        Due.is("TOWNS", x.alike(1, 0, 1), 1);
        Due.is("TOWNS later", x.alike(1, 2004, 1), 3);
        Due.is("TOWNS of others", x.alike(32, 0, 1), 2);
        int[][] wrong = {{0, 0, 0}, {11, 0, 0}, {4, 0, 0}, {40, 0, 0}, {-1, 0, 0}, {1, 3000, 0}, {1, -1, 0}, {1, 0, 3},
            {1, 0, -1}};
        for (int[] call : wrong) {
            Due.is("alike", x.alike(call[0], call[1], call[2]), -2000000000);
        }
    }

    private static void mixed() {
        FameAhead x = road();
        x.deed(2, 0, 3);
        x.deed(12, 0, 5);
        x.deed(11, 0, 2);
        Due.is("MIXED", x.alike(1, 0, 2), (20 - 2 * 8) - 12);
        Due.is("MIXED the other way", x.alike(10, 0, 2), 0);
        Due.is("MIXED not HEARD", x.alike(1, 1003, 2), 0);
        Due.tell(x, "p*10+w");
        Due.is("by a law that tells who, as its own", x.alike(1, 0, 2), (5 - 2 * 2) - 3);
        Due.is("the other's as one's own", x.alike(10, 0, 2), 0);
        Due.is("nothing to nothing", x.alike(23, 0, 2), 0);
        Due.is("one without DEEDS", x.alike(21, 0, 2), 25 - 2 * 22);
    }
}

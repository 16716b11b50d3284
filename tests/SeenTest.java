/** Promises 23 to 28: JUDGED, WHICH, FIRST, NEWS, GARBLED, DRAWN. */
public final class SeenTest {
    public static void main(String[] args) {
        judge();
        which();
        whichRefusals();
        first();
        news();
        garbled();
        garbledRound();
        drawn();
        Due.close();
    }

    private static void judge() {
        FameAhead x = Due.land(1, 0);
        x.deed(0, 0, 2);
        x.deed(3, 0, 9);
        Due.is("nothing there", x.judge(0, 0, 0), -11);
        Due.lay(x, 0, 0, 8, 0, 0, 36, 0, 77, 99);
        Due.is("so, five at most count", x.judge(0, 0, 0), -2);
        x.town(0);
        Due.is("not in a TOWN that has not HEARD", x.judge(0, 0, 1000), 0);
        Due.is("of another one", x.judge(0, 1, 0), 0);
        x.put(0, 4, 1);
        Due.is("the fifth isn't", x.judge(0, 0, 0), 4);
        x.put(0, 3, 35);
        Due.is("the first that isn't", x.judge(0, 0, 0), 3);
        x.put(0, 3, 36 + 256);
        Due.is("a byte's lowest bits", x.judge(0, 0, 0), 4);
        Due.lay(x, 0, 0, 8, 0);
        Due.is("two alone", x.judge(0, 0, 0), -2);
        x.row(0, 0, 0);
        Due.is("none at all", x.judge(0, 0, 0), -2);
        x.row(0, 1, 5);
        Due.is("a ROW of shorts", x.judge(0, 0, 0), -12);
        x.body(0);
        x.keep(0, 0);
        Due.is("a WORD", x.judge(0, 0, 0), -12);
        int[][] wrong = {{-1, 0, 0}, {6, 0, 0}, {1, 4, 0}, {1, -1, 0}, {1, 0, 2000}, {1, 0, -1}};
        for (int[] call : wrong) {
            Due.is("judge", x.judge(call[0], call[1], call[2]), -1);
        }
    }

    private static void which() {
        FameAhead x = Due.land(1, 0);
        x.deed(10, 0, 9);
        x.deed(0, 0, 2);
        x.deed(0, 0, 5);
        x.deed(0, 0, 5);
        x.deed(4, 0, 1);
        Due.lay(x, 0, 0, 20);
        Due.is("sets", x.which(0, 0, 0, 0), 3 * 2 * 2);
        Due.is("the least", x.which(0, 0, 0, 1), 4);
        Due.is("in none of all", x.which(0, 0, 0, 2), 0);
        x.town(0);
        Due.is("not in a TOWN that has not HEARD", x.which(0, 0, 1000, 0), 0);
        Due.lay(x, 0, 0, 8, 0, 0, 0, 4);
        Due.is("one set", x.which(0, 0, 0, 0), 1);
        Due.is("that", x.which(0, 0, 0, 1), 2 + 16);
        Due.is("surely", x.which(0, 0, 0, 2), 2 + 16);
        Due.lay(x, 0, 0, 20, 0, 0, 0, 4);
        Due.is("six sets", x.which(0, 0, 0, 0), 6);
        Due.is("the least of six", x.which(0, 0, 0, 1), 4 + 16);
        Due.is("surely in six", x.which(0, 0, 0, 2), 16);
        Due.lay(x, 0, 0, 0, 0);
        Due.is("none need be", x.which(0, 0, 0, 1), 0);
        x.row(0, 0, 0);
        Due.is("all sets", x.which(0, 0, 0, 0), 16);
        Due.is("all sets of one without DEEDS", x.which(0, 3, 0, 0), 1);
        Due.is("the empty one", x.which(0, 3, 0, 2), 0);
        Due.lay(x, 0, 0, 36);
        Due.is("no set", x.which(0, 0, 0, 0), 0);
        Due.is("no least", x.which(0, 0, 0, 1), -2);
        Due.is("none surely", x.which(0, 0, 0, 2), -2);
        Due.is("the other's", x.which(0, 1, 0, 1), 1);
    }

    private static void whichRefusals() {
        FameAhead x = Due.land(1, 0);
        int[][] wrong = {{-1, 0, 0, 0}, {6, 0, 0, 0}, {0, 4, 0, 0}, {0, -1, 0, 0}, {0, 0, 1000, 0}, {0, 0, -1, 0},
            {0, 0, 0, 3}, {0, 0, 0, -1}};
        for (int[] call : wrong) {
            Due.is("which", x.which(call[0], call[1], call[2], call[3]), -1);
        }
        Due.is("nothing there", x.which(0, 0, 0, 0), -11);
        x.row(0, 3, 5);
        Due.is("a ROW of longs", x.which(0, 0, 0, 0), -12);
        x.body(0);
        x.keep(0, 0);
        Due.is("a WORD", x.which(0, 0, 0, 0), -12);
        for (int i = 0; i < 10; i++) {
            x.deed(0, 0, i < 9 ? 1 : 2);
        }
        Due.lay(x, 0, 0, 4);
        Due.is("any of nine", x.which(0, 0, 0, 0), 511);
        Due.lay(x, 0, 0, 8);
        Due.is("the tenth, and any of nine", x.which(0, 0, 0, 0), 512);
        Due.is("the tenth surely", x.which(0, 0, 0, 2), 512);
    }

    private static void first() {
        FameAhead x = Due.land(3, 0);
        x.road(1, 8);
        x.deed(2, 100, 5);
        x.deed(2, 300, 5);
        Due.is("first", x.first(2, 20, 0), 100);
        Due.is("the last", x.first(2, 20, 1), 307);
        Due.is("first elsewhere", x.first(2, 101, 0), 104);
        Due.is("the last at 1", x.first(2, 1, 1), 300 + 159);
        Due.is("too LOUD", x.first(2, 21, 0), -2);
        Due.is("too LOUD, the last", x.first(2, 21, 1), -2);
        Due.is("never HEARD", x.first(2, 201, 0), -2);
        x.mend(1, 3, 999);
        Due.is("at 999", x.first(2, 20, 1), 999);
        x.mend(0, 3, 0);
        Due.is("at 0", x.first(2, 20, 0), 0);
        Due.tell(x, "w*!a");
        x.mend(1, 5, 6);
        Due.is("first at 999 alone", x.first(2, 6, 0), 999);
        x.mend(0, 5, 7);
        Due.is("the last at 0 alone", x.first(2, 7, 1), 0);
        int[][] wrong = {{5, 1, 0}, {40, 1, 0}, {-1, 1, 0}, {0, 301, 0}, {0, -1, 0}, {0, 100, 0}, {0, 1, 2}, {0, 1, -1}};
        for (int[] call : wrong) {
            Due.is("first", x.first(call[0], call[1], call[2]), -1);
        }
    }

    private static void news() {
        FameAhead x = new FameAhead();
        x.town(9);
        x.town(0);
        x.town(4);
        x.town(0);
        x.town(0);
        x.road(1, 5);
        x.road(2, 10);
        x.road(3, 19);
        x.deed(0, 100, 1);
        Due.is("last, of like ones the least", x.news(0, -1), 3);
        Due.is("first, not its own", x.news(0, -2), 1);
        Due.is("none yet", x.news(0, 102), 0);
        Due.is("one", x.news(0, 103), 1);
        Due.is("three by 109", x.news(0, 109), 3);
        Due.is("all by 110", x.news(0, 110), 4);
        x.mend(3, 0, 0);
        x.mend(2, 0, 5);
        Due.is("2 and 3 are like", x.news(0, -1), 2);
        x.mend(1, 0, 6);
        Due.is("0 and 1 are like", x.news(0, -2), 0);
        x.mend(0, 3, 999);
        Due.is("behind 999", x.news(0, 999), 0);
        Due.is("behind 999, all", x.news(0, 2000), 4);
        Due.is("news(1, 0)", x.news(1, 0), -1);
        Due.is("news(-1, 0)", x.news(-1, 0), -1);
        Due.is("news(0, -3)", x.news(0, -3), -1);
    }

    private static void garbled() {
        FameAhead x = Due.land(5, 0);
        x.road(1, 5);
        x.road(12, 5);
        x.road(2, 12);
        x.road(23, 24);
        x.deed(0, 0, 1);
        fraction(x, 0, 0, 1, 1);
        fraction(x, 0, 1, 11, 12);
        fraction(x, 0, 2, 11, 12);
        fraction(x, 0, 3, 121, 144);
        fraction(x, 0, 4, 0, 1);
        x.mend(2, 1, 13);
        fraction(x, 0, 2, 121, 144);
        x.mend(0, 8, 4);
        fraction(x, 0, 2, 4, 9);
        x.mend(0, 8, 0);
        fraction(x, 0, 2, 1, 1);
        x.mend(0, 8, 12);
        fraction(x, 0, 2, 0, 1);
        int[][] wrong = {{1, 0, 0}, {-1, 0, 0}, {0, 5, 0}, {0, -1, 0}, {0, 0, 2}, {0, 0, -1}};
        for (int[] call : wrong) {
            Due.is("garbled", x.garbled(call[0], call[1], call[2]), Long.MIN_VALUE);
        }
    }

    private static void fraction(FameAhead x, int deed, int town, long above, long below) {
        Due.is("above the line to " + town, x.garbled(deed, town, 0), above);
        Due.is("below the line to " + town, x.garbled(deed, town, 1), below);
    }

    private static void garbledRound() {
        FameAhead x = Due.land(8, 0);
        for (int i = 0; i < 7; i++) {
            x.road(10 * i + i + 1, 1);
        }
        x.deed(0, 0, 1);
        x.mend(0, 8, 12);
        fraction(x, 0, 4, 0, 1);
        fraction(x, 0, 5, 1, 1);
        fraction(x, 0, 6, 0, 1);
        x.mend(0, 8, 6);
        fraction(x, 0, 5, 1, 16);
        fraction(x, 0, 7, 11, 64);
        x.mend(0, 8, 1);
        long above = 11L * 11 * 11 * 11 * 11 * 11 * 11 + 21 * 121;
        fraction(x, 0, 7, above / 16, 35831808 / 16);
    }

    private static void drawn() {
        FameAhead x = Due.land(4, 0);
        x.road(1, 5);
        x.road(12, 5);
        x.deed(3, 0, 1);
        x.mend(0, 8, 5);
        int z = -77;
        int same = 0;
        int sum = 0;
        for (int word = 0; word < 50; word++) {
            int mark = 3;
            for (int road = 0; road < 2; road++) {
                z = z * 1103515245 + 12345;
                mark = (z >>> 8) % 12 < 5 ? (mark == 4 ? 0 : mark + 1) : mark;
            }
            same += mark == 3 ? 1 : 0;
            sum += mark;
        }
        Due.is("as it was", x.drawn(0, 2, -77, 500), same);
        Due.is("the sum", x.drawn(0, 2, -77, 501), sum);
        Due.is("its own TOWN", x.drawn(0, 0, -77, 70), 7);
        Due.is("its own TOWN, the sum", x.drawn(0, 0, -77, 71), 21);
        Due.is("NOT HEARD", x.drawn(0, 3, 1, 10), 0);
        Due.is("NOT HEARD, the sum", x.drawn(0, 3, 1, 11), 0);
        x.mend(0, 8, 12);
        Due.is("surely garbled twice", x.drawn(0, 2, 1, 101), 0);
        Due.is("surely garbled once", x.drawn(0, 1, 1, 101), 40);
        x.mend(0, 8, 0);
        Due.is("never garbled", x.drawn(0, 2, 1, 100), 10);
        int[][] wrong = {{1, 0, 1, 10}, {-1, 0, 1, 10}, {0, 4, 1, 10}, {0, -1, 1, 10}, {0, 0, 1, 0}, {0, 0, 1, 9},
            {0, 0, 1, 12}, {0, 0, 1, 19}, {0, 0, 1, 510}, {0, 0, 1, -10}, {0, 0, 1, 502}};
        for (int[] call : wrong) {
            Due.is("drawn", x.drawn(call[0], call[1], call[2], call[3]), -1);
        }
    }
}

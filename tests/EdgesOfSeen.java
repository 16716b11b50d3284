/** Head 3, DRAWN in head 4, and promises 23 to 28. */
final class EdgesOfSeen {
    private EdgesOfSeen() {
    }

    static void run() {
        judged();
        which();
        first();
        news();
        garbled();
        garbledByManyRoads();
        drawn();
        judgingAskedFor();
        whichAskedFor();
        firstAskedFor();
        newsAskedFor();
        garblingAskedFor();
        drawingAskedFor();
    }

    /** One 0 is SAID 4, 8, 12, 16, 20 with its MARKS in TOWN 0 at hour 50; TOWN 1 hears nothing. */
    private static FameAhead fiveMarks() {
        FameAhead x = Due.land(2, 0);
        for (int mark = 0; mark < 5; mark++) {
            x.deed(mark, 50, mark + 1);
        }
        return x;
    }

    private static void judged() {
        Edge.says(0, "SEEN: a ROW of bytes on a SHELF: what is SAID of one in a TOWN at an hour, MARK by MARK from 0 on (5 at most"
            + " count): JUDGED: the first MARK that is not so; NOT.");
        FameAhead x = fiveMarks();
        x.row(5, 0, 0);
        Edge.is("an empty ROW", x.judge(5, 0, 50), Edge.NOT);
        Due.lay(x, 5, 0, 4);
        Edge.is("one of one", x.judge(5, 0, 50), Edge.NOT);
        Due.lay(x, 5, 0, 4, 8, 12, 16);
        Edge.is("four of four", x.judge(5, 0, 50), Edge.NOT);
        Due.lay(x, 5, 0, 4, 8, 12, 16, 20);
        Edge.is("five of five", x.judge(5, 0, 50), Edge.NOT);
        Due.lay(x, 5, 0, 4, 8, 12, 16, 20, 24);
        Edge.is("a sixth does not count", x.judge(5, 0, 50), Edge.NOT);
        x.row(5, 0, 60);
        Edge.is("sixty of nothing", x.judge(5, 3, 50), Edge.NOT);
        for (int mark = 4; mark >= 0; mark--) {
            Due.lay(x, 5, 0, 4, 8, 12, 16, 20);
            x.put(5, mark, 5);
            Edge.is("not so by MARK " + mark, x.judge(5, 0, 50), mark);
            x.put(5, 4, 5);
            Edge.is("the first that is not so", x.judge(5, 0, 50), mark);
        }
        Due.lay(x, 5, 0, 4, 8);
        Edge.is("an hour ahead", x.judge(5, 0, 49), 0);
        Edge.is("in another TOWN", x.judge(5, 0, 1050), 0);
        Edge.is("of another one", x.judge(5, 1, 50), 0);
        Due.lay(x, 5, 0, -4);
        Edge.is("below 0", x.judge(5, 0, 50), 0);
    }

    private static void which() {
        Edge.says(0, "WHICH: of all sets of the one's DEEDS (if the one did these alone) how many make it so; the least (as bits of"
            + " DEEDS); which DEEDS are in all of them; NOT: none.");
        FameAhead x = Due.land(2, 0);
        x.row(0, 0, 0);
        Edge.each("no DEEDS, an empty ROW: which", x, (y, v) -> y.which(0, 0, 0, v), 1, 0, 0);
        Due.lay(x, 0, 0, 0, 0, 0, 0, 0);
        Edge.each("no DEEDS, nothing SAID: which", x, (y, v) -> y.which(0, 0, 0, v), 1, 0, 0);
        Due.lay(x, 0, 0, 4);
        Edge.each("no DEEDS, 4 SAID: which", x, (y, v) -> y.which(0, 0, 0, v), 0, Edge.NOT, Edge.NOT);
        x.deed(10, 0, 1);
        x.deed(0, 0, 1);
        x.deed(0, 0, 1);
        x.deed(0, 0, 2);
        x.deed(4, 0, 3);
        Edge.each("one of two and any of the last: which", x, (y, v) -> y.which(0, 0, 0, v), 3 * 2, 2, 0);
        Due.lay(x, 0, 0, 8);
        Edge.each("the one surely: which", x, (y, v) -> y.which(0, 0, 0, v), 8, 8, 8);
        Due.lay(x, 0, 0, 8, 0, 0, 0, 12);
        Edge.each("the last, too: which", x, (y, v) -> y.which(0, 0, 0, v), 4, 24, 24);
        Due.lay(x, 0, 0, 8, 0, 0, 0, 11);
        Edge.each("none: which", x, (y, v) -> y.which(0, 0, 0, v), 0, Edge.NOT, Edge.NOT);
        Due.lay(x, 0, 0, 8, 0, 0, 0, 12, 99, 99);
        Edge.each("five at most count: which", x, (y, v) -> y.which(0, 0, 0, v), 4, 24, 24);
        Due.lay(x, 0, 0, 0);
        Edge.each("where it is not HEARD: which", x, (y, v) -> y.which(0, 0, 1000, v), 16, 0, 0);
        Due.lay(x, 0, 0, 4);
        Edge.each("of the other: which", x, (y, v) -> y.which(0, 1, 0, v), 1, 1, 1);
        FameAhead y = Due.land(1, 0);
        for (int i = 0; i < 10; i++) {
            y.deed(0, 0, 1);
        }
        y.row(0, 0, 0);
        Edge.each("all sets of ten: which", y, (z, v) -> z.which(0, 0, 0, v), 1024, 0, 0);
        Due.lay(y, 0, 0, 4);
        Edge.each("all but the empty one: which", y, (z, v) -> z.which(0, 0, 0, v), 1023, 1, 0);
    }

    private static void first() {
        Edge.says(0, "FIRST: the first hour (0 .. 999) at which a MARK of one is SAID x or more in a TOWN; the last; NOT.");
        FameAhead x = World.chain(3, 6);
        x.mend(1, 2, 0);
        x.deed(34, 100, 5);
        Edge.each("20 at its HOUR: first", x, (y, v) -> y.first(34, 20, v), 100, 107);
        Edge.each("1 till it has faded: first", x, (y, v) -> y.first(34, 1, v), 100, 259);
        Edge.each("21 never: first", x, (y, v) -> y.first(34, 21, v), Edge.NOT, Edge.NOT);
        Edge.each("20 elsewhere: first", x, (y, v) -> y.first(34, 120, v), 103, 110);
        Edge.each("never HEARD: first", x, (y, v) -> y.first(34, 201, v), Edge.NOT, Edge.NOT);
        Edge.each("of another MARK: first", x, (y, v) -> y.first(33, 1, v), Edge.NOT, Edge.NOT);
        Edge.each("of another one: first", x, (y, v) -> y.first(24, 1, v), Edge.NOT, Edge.NOT);
        x.mend(0, 3, 0);
        Edge.each("from hour 0 on: first", x, (y, v) -> y.first(34, 20, v), 0, 7);
        x.mend(0, 3, 999);
        Edge.each("at hour 999 alone: first", x, (y, v) -> y.first(34, 20, v), 999, 999);
        Edge.each("behind hour 999: first", x, (y, v) -> y.first(34, 101, v), Edge.NOT, Edge.NOT);
        x.mend(0, 3, 0);
        Due.tell(x, "99");
        Edge.each("99 for ever: first", x, (y, v) -> y.first(34, 99, v), 0, 999);
        Due.tell(x, "a=10|a=20");
        Edge.each("the first and the last, not all between: first", x, (y, v) -> y.first(34, 1, v), 10, 20);
    }

    private static void news() {
        Edge.says(0, "NEWS: the TOWN that hears a DEED last (of like ones the least; those that never do don't count), first (its own,"
            + " too; of like ones the least); how many hear it by an hour.");
        FameAhead x = Due.land(8, 0);
        x.deed(0, 3100, 1);
        Edge.is("its own alone is the last", x.news(0, -1), 3);
        Edge.is("and the first", x.news(0, -2), 3);
        Edge.is("one in all", x.news(0, 999), 1);
        x.road(37, 1);
        x.road(36, 1);
        x.road(32, 5);
        Edge.is("last", x.news(0, -1), 2);
        x.mend(6, 0, 2);
        Edge.is("last of like ones the least", x.news(0, -1), 2);
        x.mend(6, 0, 3);
        Edge.is("last by DEAF", x.news(0, -1), 6);
        x.mend(3, 0, 1);
        Edge.is("first of like ones its own", x.news(0, -2), 3);
        x.mend(3, 0, 2);
        Edge.is("first is another", x.news(0, -2), 7);
        x.mend(2, 1, 1);
        Edge.is("first of like others the least", x.news(0, -2), 2);
        Edge.is("by an hour ahead", x.news(0, 100), 0);
        Edge.is("by the hour itself", x.news(0, 101), 2);
        Edge.is("by the next", x.news(0, 102), 3);
        Edge.is("by the one ahead of the last", x.news(0, 103), 3);
        Edge.is("by the last", x.news(0, 104), 4);
        x.mend(0, 3, 0);
        x.mend(3, 0, 0);
        Edge.is("by hour 0", x.news(0, 0), 1);
        Edge.is("first at hour 0", x.news(0, -2), 3);
        FameAhead y = Due.land(1, 0);
        y.deed(0, 0, 1);
        Edge.is("the only TOWN at hour 0 is last", y.news(0, -1), 0);
        Edge.is("and first", y.news(0, -2), 0);
        FameAhead z = World.chain(8, 1);
        for (int town = 0; town < 8; town++) {
            z.deed(0, 1000 * town, 1);
            Edge.is("last of eight", z.news(town, -1), town < 4 ? 7 : 0);
            Edge.is("first of eight", z.news(town, -2), town);
            Edge.is("all eight", z.news(town, 7), 8);
        }
    }

    private static void garbled() {
        Edge.says(0, "GARBLED: in GARBLE of twelve (0 .. 12; 1 at first) a MARK becomes the next one (4: 0) on each ROAD: how likely a"
            + " DEED's MARK comes to a TOWN as it was, by as many ROADS as the quickest WAY has (of like ones the one of fewest"
            + " ROADS): a fraction in lowest terms. NOT HEARD: 0.");
        FameAhead x = World.chain(4, 2);
        x.town(0);
        x.road(2, 4);
        x.deed(4, 0, 1);
        fraction(x, 0, 1, 1);
        fraction(x, 1, 11, 12);
        fraction(x, 2, 11, 12);
        fraction(x, 3, 121, 144);
        fraction(x, 4, 0, 1);
        x.mend(3, 1, 5);
        fraction(x, 2, 121, 144);
        x.mend(3, 1, 4);
        x.mend(3, 2, 0);
        fraction(x, 2, 121, 144);
        x.mend(0, 8, 0);
        fraction(x, 3, 1, 1);
        x.mend(0, 8, 12);
        fraction(x, 0, 1, 1);
        fraction(x, 1, 0, 1);
        x.mend(0, 8, 11);
        fraction(x, 1, 1, 12);
        x.mend(0, 8, 6);
        fraction(x, 1, 1, 2);
        x.mend(0, 8, 9);
        fraction(x, 1, 1, 4);
        x.mend(0, 2, 0);
        fraction(x, 1, 0, 1);
        fraction(x, 0, 1, 1);
    }

    private static void fraction(FameAhead x, int town, long above, long below) {
        Edge.is("above the line, to TOWN " + town, x.garbled(0, town, 0), above);
        Edge.is("below the line, to TOWN " + town, x.garbled(0, town, 1), below);
    }

    private static void garbledByManyRoads() {
        FameAhead x = World.chain(8, 1);
        x.deed(2, 0, 1);
        x.mend(0, 8, 12);
        for (int town = 0; town < 8; town++) {
            fraction(x, town, town % 5 == 0 ? 1 : 0, 1);
        }
        x.mend(0, 8, 6);
        fraction(x, 4, 1, 16);
        fraction(x, 5, 1, 16);
        fraction(x, 6, 7, 64);
        fraction(x, 7, 11, 64);
        x.mend(0, 8, 1);
        long fiveOfFive = 161051 + 1;
        fraction(x, 5, fiveOfFive / 12, 248832 / 12);
        long fiveOfSeven = 19487171 + 21 * 121;
        fraction(x, 7, fiveOfSeven / 16, 35831808 / 16);
    }

    private static void drawn() {
        Edge.says(0, "DRAWN: n words (1 .. 50) of a DEED to a TOWN by a SEED: z = z * 1103515245 + 12345 (an int; SEED at first) ahead of"
            + " each ROAD (as many as above): it is garbled, if (z >>> 8) % 12 is below GARBLE: how many come with the MARK that"
            + " it was; the sum of the numbers of MARKS that come (NOT HEARD: both 0).");
        FameAhead x = World.chain(4, 2);
        x.town(0);
        x.deed(4, 0, 1);
        x.deed(0, 0, 1);
        for (int garble : new int[] {0, 1, 5, 11, 12}) {
            x.mend(0, 8, garble);
            for (int seed : new int[] {0, 1, -1, 20261119, Edge.LEAST, Edge.MOST}) {
                words(x, 0, 3, seed, 1, garble);
                words(x, 1, 1, seed, 50, garble);
                words(x, 1, 2, seed, 7, garble);
            }
        }
        Edge.each("its own TOWN: drawn", x, (y, v) -> y.drawn(0, 0, 9, 500 + v), 50, 200);
        Edge.each("NOT HEARD: drawn", x, (y, v) -> y.drawn(0, 4, 9, 500 + v), 0, 0);
        x.mend(0, 8, 12);
        Edge.each("4 becomes 0 on the one ROAD: drawn", x, (y, v) -> y.drawn(0, 1, 9, 30 + v), 0, 0);
        Edge.each("4 becomes 0, then 1: drawn", x, (y, v) -> y.drawn(0, 2, 9, 30 + v), 0, 3);
        x.mend(0, 2, 0);
        Edge.each("no more CARTED, NOT HEARD: drawn", x, (y, v) -> y.drawn(0, 1, 9, 30 + v), 0, 0);
    }

    /** DEED 0 has MARK 4, DEED 1 has MARK 0; a TOWN is as many ROADS away as its number. */
    private static void words(FameAhead x, int deed, int town, int seed, int n, int garble) {
        int z = seed;
        int asItWas = 0;
        int sum = 0;
        for (int word = 0; word < n; word++) {
            int mark = deed == 0 ? 4 : 0;
            for (int road = 0; road < town; road++) {
                z = z * 1103515245 + 12345;
                mark = (z >>> 8) % 12 >= garble ? mark : mark == 4 ? 0 : mark + 1;
            }
            asItWas += mark == (deed == 0 ? 4 : 0) ? 1 : 0;
            sum += mark;
        }
        String call = n + " words of DEED " + deed + " by SEED " + seed + " and GARBLE " + garble;
        Edge.is(call + " as it was", x.drawn(deed, town, seed, 10 * n), asItWas);
        Edge.is(call + ", the sum", x.drawn(deed, town, seed, 10 * n + 1), sum);
    }

    private static void judgingAskedFor() {
        Edge.says(23, "JUDGED. BAD, -11, -12 (no ROW of bytes); NOT.");
        Edge.refusedEach("judge, shelf", Edge.BAD, World.NO_SHELF, (y, v) -> y.judge(v, 0, 30));
        Edge.refusedEach("judge, one", Edge.BAD, World.NO_ONE, (y, v) -> y.judge(0, v, 30));
        Edge.refusedEach("judge, th", Edge.BAD, World.NO_TH, (y, v) -> y.judge(0, 0, v));
        Edge.refusedEach("judge an empty SHELF", Edge.NOTHING, new int[] {4}, (y, v) -> y.judge(v, 0, 30));
        Edge.refusedEach("judge by shorts, ints, a WORD, longs", Edge.OTHER_KIND, new int[] {1, 2, 3, 5}, (y, v) -> y.judge(v, 0, 30));
        Edge.refused("judge by booleans", Edge.OTHER_KIND, y -> { World.furnished(y); y.row(4, 4, 5); }, y -> y.judge(4, 0, 30));
        Edge.refusedEach("BAD ahead of -11 and -12, shelf", Edge.BAD, new int[] {1, 3, 4}, (y, v) -> y.judge(v, 4, 30));
        Edge.refused("so", Edge.NOT, y -> { World.furnished(y); y.row(4, 0, 5); }, y -> y.judge(4, 3, 30));
        Edge.refused("not so", 0, World::furnished, y -> y.judge(0, 3, 30));
    }

    private static void whichAskedFor() {
        Edge.says(24, "WHICH: how many (what 0), the least (1; NOT), in all (2; NOT). BAD, -11, -12.");
        int[] whats = {-1, 3, Edge.LEAST, Edge.MOST};
        Edge.refusedEach("which, shelf", Edge.BAD, World.NO_SHELF, (y, v) -> y.which(v, 0, 30, 0));
        Edge.refusedEach("which, one", Edge.BAD, World.NO_ONE, (y, v) -> y.which(0, v, 30, 0));
        Edge.refusedEach("which, th", Edge.BAD, World.NO_TH, (y, v) -> y.which(0, 0, v, 0));
        Edge.refusedEach("which, what", Edge.BAD, whats, (y, v) -> y.which(0, 0, 30, v));
        Edge.refusedEach("which of an empty SHELF, what", Edge.NOTHING, new int[] {0, 1, 2}, (y, v) -> y.which(4, 0, 30, v));
        Edge.refusedEach("which by shorts, ints, a WORD, longs", Edge.OTHER_KIND, new int[] {1, 2, 3, 5},
            (y, v) -> y.which(v, 0, 30, 1));
        Edge.refusedEach("BAD ahead of -11 and -12, shelf", Edge.BAD, new int[] {1, 3, 4}, (y, v) -> y.which(v, 0, 30, 3));
        Edge.refusedEach("none, what", Edge.NOT, new int[] {1, 2}, (y, v) -> y.which(0, 0, 30, v));
        Edge.refused("none, how many", 0, World::furnished, y -> y.which(0, 0, 30, 0));
    }

    private static void firstAskedFor() {
        Edge.says(25, "FIRST (what 0), the last (1; tx: 100 times the TOWN, and x). BAD; NOT.");
        int[] places = {-1, -100, -99, 0, 100, 300, 400, 401, 499, 801, Edge.LEAST, Edge.MOST};
        int[] whats = {-1, 2, Edge.LEAST, Edge.MOST};
        Edge.refusedEach("first, pm", Edge.BAD, World.NO_PM, (y, v) -> y.first(v, 1, 0));
        Edge.refusedEach("first, tx", Edge.BAD, places, (y, v) -> y.first(1, v, 0));
        Edge.refusedEach("first, what", Edge.BAD, whats, (y, v) -> y.first(1, 1, v));
        Edge.refusedEach("99 in the last TOWN, what", Edge.NOT, new int[] {0, 1}, (y, v) -> y.first(1, 399, v));
        Edge.refused("BAD ahead of NOT", Edge.BAD, World::furnished, y -> y.first(1, 399, 2));
    }

    private static void newsAskedFor() {
        Edge.says(26, "NEWS: last (hour -1), first (-2), how many by an hour (0 on). BAD.");
        FameAhead x = new FameAhead();
        World.furnished(x);
        Edge.is("by hour 0", x.news(0, 0), 0);
        Edge.is("by hour 999", x.news(0, 999), 4);
        x.mend(0, 3, 999);
        Edge.is("by hour 999 of one HEARD at 999", x.news(0, 999), 1);
        Edge.is("by hour 1000", x.news(0, 1000), 1);
        Edge.is("by the farthest hour", x.news(0, Edge.MOST), 4);
        Edge.refusedEach("news, deed", Edge.BAD, World.NO_DEED, (y, v) -> y.news(v, 30));
        Edge.refusedEach("news, last of deed", Edge.BAD, World.NO_DEED, (y, v) -> y.news(v, -1));
        Edge.refusedEach("news, hour", Edge.BAD, new int[] {-3, -4, -1000, Edge.LEAST}, (y, v) -> y.news(0, v));
    }

    private static void garblingAskedFor() {
        Edge.says(27, "GARBLED. Long.MIN_VALUE: BAD.");
        int[] parts = {-1, 2, Edge.LEAST, Edge.MOST};
        Edge.refusedEach("garbled, deed", Long.MIN_VALUE, World.NO_DEED, (y, v) -> y.garbled(v, 0, 0));
        Edge.refusedEach("garbled, town", Long.MIN_VALUE, World.NO_TOWN, (y, v) -> y.garbled(0, v, 0));
        Edge.refusedEach("garbled, part", Long.MIN_VALUE, parts, (y, v) -> y.garbled(0, 0, v));
        Edge.says(0, "part 0 above, 1 below the line");
        Edge.refusedEach("garbled, part", 1, new int[] {0, 1}, (y, v) -> y.garbled(0, 0, v));
    }

    private static void drawingAskedFor() {
        Edge.says(28, "DRAWN (nw: 10 n, and 0 as it was, 1 the sum). BAD.");
        int[] wrong = {-1, -10, -11, 0, 1, 9, 12, 13, 19, 502, 509, 510, 511, 1000, Edge.LEAST, Edge.MOST};
        Edge.refusedEach("drawn, deed", Edge.BAD, World.NO_DEED, (y, v) -> y.drawn(v, 0, 7, 10));
        Edge.refusedEach("drawn, town", Edge.BAD, World.NO_TOWN, (y, v) -> y.drawn(0, v, 7, 10));
        Edge.refusedEach("drawn, nw", Edge.BAD, wrong, (y, v) -> y.drawn(0, 0, 7, v));
        Edge.refused("1 word, as it was", 1, World::furnished, y -> y.drawn(0, 0, 7, 10));
        Edge.refused("1 word, the sum", 1, World::furnished, y -> y.drawn(0, 0, 7, 11));
        Edge.refused("50 words, as they were", 50, World::furnished, y -> y.drawn(3, 2, 7, 500));
        Edge.refused("50 words, the sum", 200, World::furnished, y -> y.drawn(3, 2, 7, 501));
    }
}

/** Head 1 up to HEARD, and promises 1 to 4, 6, 7, 10, 11. */
final class EdgesOfLand {
    private EdgesOfLand() {
    }

    static void run() {
        towns();
        roads();
        lengths();
        carted();
        people();
        worths();
        arrest();
        deeds();
        ways();
        heard();
        aNewObject();
        mending();
        mendingNothing();
        telling();
        tellingNothing();
        waysAskedFor();
        hearingAskedFor();
    }

    private static void towns() {
        Edge.says(0, "TOWNS 0 .. 7, as they come");
        FameAhead x = new FameAhead();
        for (int i = 0; i < 8; i++) {
            Edge.is("town " + i, x.town(0), i);
        }
        Edge.is("count(0)", x.count(0), 8);

        Edge.says(0, "DEAF (0 .. 9 hours: so much later it hears; 0 at first)");
        x = new FameAhead();
        x.town(0);
        x.town(9);
        x.road(1, 1);
        x.deed(0, 5, 1);
        x.deed(0, 1005, 1);
        Edge.is("HEARD where DEAF is 0", x.heard(0, 0), 5);
        Edge.is("HEARD where DEAF is 9", x.heard(0, 1), 15);
        Edge.is("HEARD in its own TOWN where DEAF is 9", x.heard(1, 1), 14);
        Edge.is("HEARD from there where DEAF is 0", x.heard(1, 0), 6);
        Edge.refusedEach("town", Edge.BAD, new int[] {-1, 10, Edge.LEAST, Edge.MOST}, (y, v) -> y.town(v));

        Edge.says(2, "A TOWN: its number. BAD, FULL: 8.");
        x = Due.land(7, 0);
        Edge.is("the eighth", x.town(9), 7);
        Edge.is("its DEAF", x.of(7, 0), 9);
        Edge.refused("a ninth", Edge.FULL, World::full, y -> y.town(0));
        Edge.refused("a ninth with DEAF 10", Edge.BAD, World::full, y -> y.town(10));
        Edge.refused("a ninth with DEAF -1", Edge.BAD, World::full, y -> y.town(-1));
    }

    private static void roads() {
        Edge.says(0, "ROADS 0 .. 11, as they come, each between two unlike TOWNS");
        FameAhead x = Due.land(8, 0);
        for (int i = 0; i < 12; i++) {
            Edge.is("road " + i, x.road(i % 3 == 0 ? 7 : i % 3 == 1 ? 70 : 67, 5), i);
        }
        Edge.is("count(1)", x.count(1), 12);
        Edge.refusedEach("road from a TOWN to itself", Edge.BAD, new int[] {0, 11, 22, 33}, (y, v) -> y.road(v, 5));

        Edge.says(3, "A ROAD (ab: 10 times the one TOWN and the other): its number. BAD, FULL: 12.");
        Edge.refusedEach("road between", Edge.BAD, World.NO_PAIR, (y, v) -> y.road(v, 5));
        Edge.refusedEach("road as long as", Edge.BAD, new int[] {-1, 0, 25, Edge.LEAST, Edge.MOST}, (y, v) -> y.road(3, v));
        Edge.refused("a thirteenth", Edge.FULL, World::full, y -> y.road(7, 24));
        Edge.refused("a thirteenth from a TOWN to itself", Edge.BAD, World::full, y -> y.road(77, 24));
        Edge.refused("a thirteenth to TOWN 8", Edge.BAD, World::full, y -> y.road(78, 24));
        Edge.refused("a thirteenth of LONG 25", Edge.BAD, World::full, y -> y.road(7, 25));
    }

    private static void lengths() {
        Edge.says(0, "LONG (1 .. 24 hours by FEET; by CARTERS half of it, cut up)");
        int[] half = {1, 1, 2, 2, 3, 3, 4, 4, 5, 5, 6, 6, 7, 7, 8, 8, 9, 9, 10, 10, 11, 11, 12, 12};
        for (int length = 1; length <= 24; length++) {
            FameAhead x = Due.land(2, 0);
            Edge.is("road of LONG " + length, x.road(1, length), 0);
            Edge.is("LONG", x.of(0, 1), length);
            Edge.is("by FEET", x.way(1, 0), length);
            Edge.is("by CARTERS", x.way(1, 1), half[length - 1]);
        }
        FameAhead x = World.chain(3, 5);
        Edge.is("each ROAD is cut up by itself", x.way(2, 1), 6);
    }

    private static void carted() {
        Edge.says(0, "CARTED (0, 1; 1 at first: whether CARTERS go it)");
        FameAhead x = World.chain(2, 6);
        Edge.is("at first", x.of(0, 2), 1);
        Edge.is("CARTERS go it", x.way(1, 1), 3);
        Edge.is("mend to 0", x.mend(0, 2, 0), 1);
        Edge.is("CARTERS don't", x.way(1, 1), Edge.NOT);
        Edge.is("FEET do", x.way(1, 0), 6);
        Edge.is("mend to 1", x.mend(0, 2, 1), 0);
        Edge.is("CARTERS go it again", x.way(10, 1), 3);
    }

    private static void people() {
        Edge.says(0, "PEOPLE 0 .. 3.");
        FameAhead x = Due.land(1, 0);
        for (int one = 0; one < 4; one++) {
            Edge.is("a deed of " + one, x.deed(10 * one + 1, 0, 1), one);
            Edge.is("who did it", x.of(one, 9), one);
            Edge.is("what is said of it", x.said(10 * one + 1, 0), 4);
            Edge.is("its TOWN in deed", x.of(one, 11), 0);
        }
        Edge.refusedEach("deed of", Edge.BAD, new int[] {40, 41, 44, -10}, (y, v) -> y.deed(v, 0, 1));

        Edge.says(0, "MARKS 0 .. 4 (kind, thief, rich, skilled, odd)");
        x = Due.land(1, 0);
        for (int mark = 0; mark < 5; mark++) {
            Edge.is("a deed with MARK " + mark, x.deed(mark, 0, mark + 1), mark);
            Edge.is("its MARK", x.of(mark, 4), mark);
            Edge.is("SAID", x.said(mark, 0), 4 * mark + 4);
        }
        Edge.refusedEach("deed with MARK", Edge.BAD, new int[] {5, 6, 7, 8, 9}, (y, v) -> y.deed(v, 0, 1));
    }

    private static void worths() {
        Edge.says(0, "WORTH (-9 .. 9; 1, -2, 1, 1, -1 at first)");
        FameAhead x = Due.land(1, 0);
        int[] first = {1, -2, 1, 1, -1};
        for (int mark = 0; mark < 5; mark++) {
            x.deed(10 * (mark % 4) + mark, 0, 1);
            Edge.is("of MARK " + mark, x.of(mark, 6), first[mark]);
            Edge.is("RECEIVED for it", x.received(mark % 4, 0, 0), mark == 4 ? 4 - 4 : 4 * first[mark]);
        }
        Edge.is("mend to -9", x.mend(1, 6, -9), -2);
        Edge.is("RECEIVED at -9", x.received(1, 0, 0), -36);
        Edge.is("mend to 9", x.mend(1, 6, 9), -9);
        Edge.is("RECEIVED at 9", x.received(1, 0, 0), 36);
        Edge.is("mend to 0", x.mend(1, 6, 0), 9);
        Edge.is("RECEIVED at 0", x.received(1, 0, 0), 0);
    }

    private static void arrest() {
        Edge.says(0, "ARREST (0 .. 99; 60 at first)");
        FameAhead x = Due.land(1, 0);
        Edge.is("at first", x.of(0, 7), 60);
        x.deed(1, 0, 1);
        Due.tell(x, "w*99");
        Edge.is("mend to 99", x.mend(0, 7, 99), 60);
        Edge.is("ARRESTED at 99", x.received(0, 0, 1), 1);
        Due.tell(x, "w*98");
        Edge.is("not at 98", x.received(0, 0, 1), 0);
        Edge.is("mend to 0", x.mend(0, 7, 0), 99);
        Due.tell(x, "w");
        Edge.is("ARRESTED at 1", x.received(0, 0, 1), 1);
        Edge.is("at first it is 60", new FameAhead().of(0, 7), 60);
        FameAhead y = Due.land(1, 0);
        y.deed(1, 0, 1);
        Due.tell(y, "60");
        Edge.is("60 is enough at first", y.received(0, 0, 1), 1);
        Due.tell(y, "59");
        Edge.is("59 isn't", y.received(0, 0, 1), 0);
    }

    private static void deeds() {
        Edge.says(0, "DEEDS 0 .. 9, as they come: WHO (one of PEOPLE), TOWN, HOUR (0 .. 999), MARK, WEIGHT (1 .. 9).");
        FameAhead x = Due.land(2, 0);
        for (int i = 0; i < 10; i++) {
            boolean isEven = i % 2 == 0;
            Edge.is("deed " + i, x.deed(isEven ? 0 : 34, isEven ? 0 : 1999, isEven ? 1 : 9), i);
        }
        for (int i = 0; i < 10; i += 9) {
            Edge.is("WHO of " + i, x.of(i, 9), i == 0 ? 0 : 3);
            Edge.is("TOWN of " + i, x.of(i, 10), i == 0 ? 0 : 1);
            Edge.is("HOUR of " + i, x.of(i, 3), i == 0 ? 0 : 999);
            Edge.is("MARK of " + i, x.of(i, 4), i == 0 ? 0 : 4);
            Edge.is("WEIGHT of " + i, x.of(i, 5), i == 0 ? 1 : 9);
        }

        Edge.says(4, "A DEED (pm; weight): its number. BAD, FULL: 10.");
        Edge.refusedEach("deed, pm", Edge.BAD, World.NO_PM, (y, v) -> y.deed(v, 0, 1));
        Edge.refusedEach("deed, th", Edge.BAD, World.NO_TH, (y, v) -> y.deed(0, v, 1));
        Edge.refusedEach("deed, weight", Edge.BAD, World.NO_WEIGHT, (y, v) -> y.deed(0, 0, v));
        Edge.refused("an eleventh", Edge.FULL, World::full, y -> y.deed(0, 0, 1));
        Edge.refused("an eleventh of WEIGHT 10", Edge.BAD, World::full, y -> y.deed(0, 0, 10));
        Edge.refused("an eleventh in TOWN 8", Edge.BAD, World::full, y -> y.deed(0, 8000, 1));
        Edge.refused("an eleventh of one 4", Edge.BAD, World::full, y -> y.deed(40, 0, 1));
        Edge.refused("a deed where no TOWN is", Edge.BAD, y -> { }, y -> y.deed(0, 0, 1));
    }

    private static void ways() {
        Edge.says(0, "A WAY takes the hours of its ROADS together.");
        FameAhead x = Due.land(8, 0);
        for (int i = 0; i < 7; i++) {
            x.road(11 * i + 1, 24);
        }
        Edge.is("seven ROADS by FEET", x.way(7, 0), 168);
        Edge.is("seven ROADS by CARTERS", x.way(70, 1), 84);
        x.road(27, 24);
        Edge.is("three ROADS", x.way(7, 0), 72);
        FameAhead y = Due.land(3, 0);
        y.road(1, 5);
        y.road(2, 6);
        Edge.is("over TOWN 0", y.way(12, 0), 11);
        Edge.is("over TOWN 0 by CARTERS", y.way(21, 1), 6);
    }

    private static void heard() {
        Edge.says(0, "A DEED is HEARD in a TOWN at its HOUR, and the hours of the quickest WAY by CARTERS from its TOWN to"
            + " that one (CARTED ROADS alone; 0 in its own), and DEAF (NOT: there is no such WAY).");
        FameAhead x = new FameAhead();
        for (int deaf : new int[] {2, 0, 5, 1}) {
            x.town(deaf);
        }
        x.road(1, 7);
        x.road(12, 8);
        x.road(2, 20);
        x.deed(0, 100, 1);
        Edge.is("its own: 0 and DEAF", x.heard(0, 0), 102);
        Edge.is("one ROAD", x.heard(0, 1), 104);
        Edge.is("the quickest, and DEAF", x.heard(0, 2), 113);
        Edge.is("no WAY", x.heard(0, 3), Edge.NOT);
        x.mend(1, 2, 0);
        Edge.is("CARTED ROADS alone", x.heard(0, 2), 115);
        x.mend(2, 2, 0);
        Edge.is("no CARTED WAY", x.heard(0, 2), Edge.NOT);
        x.mend(0, 2, 0);
        Edge.is("its own without any", x.heard(0, 0), 102);
        x.mend(0, 3, 999);
        Edge.is("behind 999", x.heard(0, 0), 1001);
        x.mend(0, 3, 0);
        x.mend(0, 0, 0);
        Edge.is("at 0", x.heard(0, 0), 0);
    }

    private static void aNewObject() {
        Edge.says(1, "A land without towns.");
        FameAhead x = new FameAhead();
        Edge.each("count", x, (y, v) -> y.count(v), 0, 0, 0, 0, 0, 0, 0);
        Edge.each("led", x, (y, v) -> y.led(v), 0, 0, 0, 0, 0);
        Edge.each("of GARBLE, WHO, TOWN, where one is, NOW", x, (y, v) -> y.of(0, 8 + v), 1, Edge.VOID, Edge.VOID, 0, 0);
        Edge.is("road", x.road(1, 5), Edge.BAD);
        Edge.is("way", x.way(0, 0), Edge.BAD);
        Edge.is("said", x.said(0, 0), Edge.BAD);
        Edge.is("undo", x.undo(), Edge.STATE);
        Edge.is("redo", x.redo(), Edge.STATE);
        Edge.is("back", x.back(), Edge.STATE);
        Edge.is("trace", x.trace(0), Edge.BAD);
        for (int shelf = 0; shelf < 6; shelf++) {
            Edge.is("taken", x.taken(shelf, 0), Edge.NOTHING);
        }
    }

    private static void mending() {
        Edge.says(6, "DEAF (what 0) of a TOWN, LONG (1), CARTED (2) of a ROAD, HOUR (3), MARK (4), WEIGHT (5) of a DEED,"
            + " WORTH (6) of a MARK, ARREST (7), GARBLE (8; number 0 for these) becomes v: what it was.");
        int[] least = {0, 1, 0, 0, 0, 1, -9, 0, 0};
        int[] most = {9, 24, 1, 999, 4, 9, 9, 99, 12};
        int[] last = {3, 3, 3, 5, 5, 5, 4, 0, 0};
        for (int what = 0; what < 9; what++) {
            for (int number = 0; number <= last[what]; number += Math.max(1, last[what])) {
                FameAhead x = new FameAhead();
                World.furnished(x);
                int was = x.of(number, what);
                Edge.is("mend to the least, what " + what, x.mend(number, what, least[what]), was);
                Edge.is("of the least, what " + what, x.of(number, what), least[what]);
                Edge.is("mend to the most, what " + what, x.mend(number, what, most[what]), least[what]);
                Edge.is("of the most, what " + what, x.of(number, what), most[what]);
            }
        }
    }

    private static void mendingNothing() {
        Edge.says(6, "VOID: BAD.");
        int[] least = {0, 1, 0, 0, 0, 1, -9, 0, 0};
        int[] most = {9, 24, 1, 999, 4, 9, 9, 99, 12};
        int[] behind = {4, 4, 4, 6, 6, 6, 5, 1, 1};
        for (int w = 0; w < 9; w++) {
            int what = w;
            int[] values = {least[what] - 1, most[what] + 1, Edge.LEAST, Edge.MOST, Edge.VOID};
            int[] numbers = {-1, behind[what], Edge.LEAST, Edge.MOST};
            Edge.refusedEach("mend of what " + what + " to", Edge.VOID, values, (x, v) -> x.mend(0, what, v));
            Edge.refusedEach("mend of what " + what + " of", Edge.VOID, numbers, (x, v) -> x.mend(v, what, least[what]));
        }
        int[] whats = {-1, 9, 10, 11, 12, 13, Edge.LEAST, Edge.MOST};
        Edge.refusedEach("mend of what", Edge.VOID, whats, (x, v) -> x.mend(0, v, 1));
    }

    private static void telling() {
        Edge.says(7, "As of mend() (0 to 8); of a DEED 9 WHO, 10 TOWN; of one of PEOPLE 11 the TOWN in deed; number 0: 12 NOW.");
        FameAhead x = new FameAhead();
        World.furnished(x);
        // WORTH 2 and ARREST 30 were mended, DEAF 4 too; CARTED and GARBLE UNDONE.
        Edge.each("of 0", x, (y, v) -> y.of(0, v), 0, 10, 1, 12, 1, 9, 2, 30, 1, 0, 0, 1, 30);
        Edge.is("the last TOWN's DEAF", x.of(3, 0), 0);
        Edge.is("the last ROAD's LONG", x.of(3, 1), 20);
        Edge.each("of the last DEED", x, (y, v) -> y.of(5, 3 + v), 30, 3, 5);
        Edge.is("its WHO", x.of(5, 9), 1);
        Edge.is("its TOWN", x.of(5, 10), 3);
        Edge.is("the last one's TOWN in deed", x.of(3, 11), 0);
        Edge.is("one's TOWN in deed", x.of(1, 11), 3);
    }

    private static void tellingNothing() {
        Edge.says(7, "VOID: BAD.");
        int[] behind = {4, 4, 4, 6, 6, 6, 5, 1, 1, 6, 6, 4, 1};
        for (int w = 0; w < 13; w++) {
            int what = w;
            int[] numbers = {-1, behind[what], Edge.LEAST, Edge.MOST};
            Edge.refusedEach("of what " + what + ":", Edge.VOID, numbers, (x, v) -> x.of(v, what));
        }
        int[] whats = {-1, 13, Edge.LEAST, Edge.MOST};
        Edge.refusedEach("of 0, what", Edge.VOID, whats, (x, v) -> x.of(0, v));
    }

    private static void waysAskedFor() {
        Edge.says(10, "The quickest WAY between two TOWNS (ab): by FEET (what 0), by CARTERS (1). BAD; NOT.");
        FameAhead x = Due.land(8, 0);
        x.road(7, 9);
        x.road(76, 1);
        x.road(6, 11);
        Edge.is("to the last TOWN by FEET", x.way(7, 0), 9);
        Edge.is("from the last TOWN by CARTERS", x.way(70, 1), 5);
        Edge.is("the quickest is the one of two ROADS", x.way(6, 0), 10);
        Edge.is("the quickest by CARTERS is both", x.way(6, 1), 6);
        Edge.is("the last TOWN to itself", x.way(77, 0), 0);
        Edge.is("TOWN 0 to itself by CARTERS", x.way(0, 1), 0);
        everyPair();
        Edge.refused("no WAY by FEET", Edge.NOT, y -> { y.town(0); y.town(0); }, y -> y.way(1, 0));
        Edge.refused("no WAY by CARTERS", Edge.NOT, y -> { y.town(0); y.town(0); y.road(1, 5); y.mend(0, 2, 0); },
            y -> y.way(10, 1));
        Edge.refusedEach("way between", Edge.BAD, World.NO_PAIR, (y, v) -> y.way(v, 0));
        Edge.refusedEach("way of what", Edge.BAD, new int[] {-1, 2, Edge.LEAST, Edge.MOST}, (y, v) -> y.way(1, v));
        Edge.refused("to TOWN 8 of eight", Edge.BAD, World::full, y -> y.way(78, 0));
        Edge.refused("from TOWN 8 of eight", Edge.BAD, World::full, y -> y.way(80, 1));
        Edge.refused("BAD ahead of NOT", Edge.BAD, y -> { y.town(0); y.town(0); }, y -> y.way(1, 2));
    }

    private static void everyPair() {
        FameAhead x = Due.land(8, 0);
        for (int i = 0; i < 7; i++) {
            x.road(11 * i + 1, 3 * i + 1);
        }
        for (int a = 0; a < 8; a++) {
            for (int b = 0; b < 8; b++) {
                int feet = 0;
                int carters = 0;
                for (int i = Math.min(a, b); i < Math.max(a, b); i++) {
                    feet += 3 * i + 1;
                    carters += (3 * i + 2) / 2;
                }
                Edge.is("by FEET from " + a + " to " + b, x.way(10 * a + b, 0), feet);
                Edge.is("by CARTERS from " + a + " to " + b, x.way(10 * a + b, 1), carters);
            }
        }
    }

    private static void hearingAskedFor() {
        Edge.says(11, "HEARD. BAD; NOT.");
        Edge.refusedEach("heard, deed", Edge.BAD, World.NO_DEED, (x, v) -> x.heard(v, 0));
        Edge.refusedEach("heard, town", Edge.BAD, World.NO_TOWN, (x, v) -> x.heard(0, v));
        Edge.refused("heard in TOWN 8 of eight", Edge.BAD, World::full, x -> x.heard(9, 8));
        Edge.refused("heard of DEED 10 of ten", Edge.BAD, World::full, x -> x.heard(10, 7));
        Edge.refused("no WAY", Edge.NOT, x -> { x.town(0); x.town(0); x.deed(0, 0, 1); }, x -> x.heard(0, 1));
    }
}

/** Head 2 from NEEDS on, and promises 18 to 22. */
final class EdgesOfThought {
    private EdgesOfThought() {
    }

    static void run() {
        needs();
        onlyThought();
        latest();
        cut();
        free();
        alike();
        mixed();
        needsAskedFor();
        latestAskedFor();
        cutAskedFor();
        freeAskedFor();
        alikeAskedFor();
    }

    private static void needs() {
        Edge.says(0, "NEEDS: one DEED more of one, with a MARK, in a TOWN at an hour: the least WEIGHT (1 .. 9) by which that MARK is"
            + " SAID x (1 .. 99) or more in another TOWN (or the same) at an hour; NOT.");
        FameAhead x = World.chain(2, 4);
        x.town(0);
        Edge.is("WEIGHT 1 is enough for 4", x.needs(0, 10, 10, 4), 1);
        Edge.is("WEIGHT 1 for 1", x.needs(0, 10, 10, 1), 1);
        Edge.is("not for 5", x.needs(0, 10, 10, 5), 2);
        Edge.is("WEIGHT 9 for 36", x.needs(0, 10, 10, 36), 9);
        Edge.is("none for 37", x.needs(0, 10, 10, 37), Edge.NOT);
        Edge.is("none for 99", x.needs(0, 10, 10, 99), Edge.NOT);
        Edge.is("another TOWN just as it is HEARD", x.needs(0, 10, 1012, 36), 9);
        Edge.is("an hour ahead", x.needs(0, 10, 1011, 1), Edge.NOT);
        Edge.is("a TOWN without a WAY", x.needs(0, 10, 2999, 1), Edge.NOT);
        Edge.is("from 0 to 999", x.needs(0, 0, 999, 1), Edge.NOT);
        Edge.is("from 999 to 999", x.needs(34, 2999, 2999, 36), 9);
        x.deed(0, 10, 5);
        Edge.is("SAID by another already", x.needs(0, 500, 10, 20), 1);
        Edge.is("just not by another", x.needs(0, 10, 10, 21), 6);
        Edge.is("another one's", x.needs(10, 10, 10, 20), 5);
        Edge.is("another MARK's", x.needs(1, 10, 10, 20), 5);
        Due.tell(x, "w*11");
        Edge.is("99 by WEIGHT 9", x.needs(20, 0, 0, 99), 9);
        Due.tell(x, "99-w");
        Edge.is("the least of all that are enough", x.needs(20, 0, 0, 90), 1);
        Due.tell(x, "w=6|w=8");
        Edge.is("the least of two that are enough", x.needs(20, 0, 0, 1), 6);
    }

    /** What is only thought of is not there behind it, though there are ten DEEDS. */
    private static void onlyThought() {
        FameAhead x = Due.land(1, 0);
        for (int i = 0; i < 10; i++) {
            x.deed(20 + i % 5, 0, 1);
        }
        x.mend(0, 7, 1);
        Edge.is("needs", x.needs(1, 0, 0, 36), 9);
        nothingOfOneZero(x);
        Edge.is("latest", x.latest(1, 0, 0, 936), 0);
        nothingOfOneZero(x);
        Edge.is("count(2)", x.count(2), 10);
        Edge.is("of DEED 10", x.of(10, 9), Edge.VOID);
    }

    private static void nothingOfOneZero(FameAhead x) {
        Due.lay(x, 0, 0, 0, 0);
        Edge.each("received", x, (y, v) -> y.received(0, 0, v), 0, 0, 0, Edge.NOT);
        Edge.is("said", x.said(1, 0), 0);
        Edge.is("free", x.free(0, 0, 0), 0);
        Edge.each("which", x, (y, v) -> y.which(0, 0, 0, v), 1, 0, 0);
        Edge.is("needs more", x.needs(1, 0, 0, 1), 1);
    }

    private static void latest() {
        Edge.says(0, "LATEST: with a WEIGHT the latest hour (0 .. 999) by which it is so; NOT.");
        FameAhead x = World.chain(2, 4);
        x.town(0);
        Edge.is("the hour itself", x.latest(0, 0, 100, 936), 100);
        Edge.is("999", x.latest(0, 0, 999, 936), 999);
        Edge.is("0", x.latest(0, 0, 0, 936), 0);
        Edge.is("two hours ahead elsewhere", x.latest(0, 0, 1100, 936), 98);
        Edge.is("just in time from hour 0", x.latest(0, 0, 1002, 936), 0);
        Edge.is("too early for any hour", x.latest(0, 0, 1001, 936), Edge.NOT);
        Edge.is("never HEARD", x.latest(0, 0, 2999, 901), Edge.NOT);
        Edge.is("WEIGHT 1", x.latest(0, 0, 100, 104), 100);
        Edge.is("too soft", x.latest(0, 0, 100, 105), Edge.NOT);
        Edge.is("x 99", x.latest(0, 0, 100, 999), Edge.NOT);
        Edge.is("x 1", x.latest(0, 0, 100, 101), 100);
        Due.tell(x, "a>4");
        Edge.is("not the hour itself", x.latest(0, 0, 100, 101), 95);
        Edge.is("at hour 0 alone", x.latest(0, 0, 5, 101), 0);
        Edge.is("not at hour 0 either", x.latest(0, 0, 4, 101), Edge.NOT);
        x.deed(0, 0, 9);
        Edge.is("SAID by another already", x.latest(0, 0, 100, 101), 999);
        Edge.is("not in a TOWN without a WAY", x.latest(0, 0, 2100, 101), Edge.NOT);
    }

    private static void cut() {
        Edge.says(0, "CUT: the fewest ROADS (0 .. 3) that, no more CARTED, leave a DEED not HEARD in a TOWN: how many; which (bits;"
            + " of like ones the least); NOT.");
        FameAhead x = Due.land(8, 0);
        x.deed(0, 0, 1);
        asks(x, 7, 0, 0);
        asks(x, 0, Edge.NOT, Edge.NOT);
        x.road(7, 1);
        asks(x, 7, 1, 1);
        x.road(6, 1);
        x.road(67, 1);
        asks(x, 7, 2, 3);
        asks(x, 6, 2, 3);
        x.road(5, 1);
        x.road(75, 1);
        asks(x, 7, 3, 1 + 2 + 8);
        for (int i = 0; i < 7; i++) {
            x.road(i == 0 ? 4 : i == 6 ? 34 : 12, 1);
        }
        asks(x, 4, 1, 1 << 5);
        asks(x, 3, 1, 1 << 5);
        asks(x, 2, 0, 0);
        x = Due.land(4, 0);
        x.deed(0, 0, 1);
        x.road(23, 1);
        x.road(12, 1);
        x.road(1, 1);
        asks(x, 3, 1, 1);
        asks(x, 1, 1, 4);
        x = Due.land(2, 0);
        x.deed(0, 0, 1);
        for (int i = 0; i < 12; i++) {
            x.road(1, 1);
            x.mend(i, 2, i > 8 ? 1 : 0);
        }
        asks(x, 1, 3, 7 << 9);
        x.mend(0, 2, 1);
        asks(x, 1, Edge.NOT, Edge.NOT);
        Edge.is("it is in thought", x.of(0, 2), 1);
    }

    private static void asks(FameAhead x, int town, int howMany, int which) {
        Edge.is("to TOWN " + town + ": how many", x.cut(0, town, 0), howMany);
        Edge.is("to TOWN " + town + ": which", x.cut(0, town, 1), which);
    }

    private static void free() {
        Edge.says(0, "FREE: the fewest DEEDS of one that, forgotten, leave it ARRESTED nowhere at an hour: how many; which (bits;"
            + " of like ones the least).");
        FameAhead x = Due.land(2, 0);
        x.mend(0, 7, 20);
        frees(x, 0, 0, 0);
        x.deed(1, 0, 4);
        frees(x, 0, 0, 0);
        x.deed(1, 0, 5);
        frees(x, 0, 1, 2);
        x.deed(1, 1000, 9);
        frees(x, 0, 2, 6);
        x.deed(2, 0, 9);
        x.deed(11, 0, 9);
        frees(x, 0, 2, 6);
        frees(x, 8, 1, 4);
        for (int i = 5; i < 10; i++) {
            x.deed(1, 1999, 5);
        }
        frees(x, 999, 5, 31 << 5);
        x.mend(0, 7, 0);
        frees(x, 0, 3, 7);
        frees(x, 998, 0, 0);
        Edge.is("it is in thought", x.count(2), 10);
        FameAhead z = World.chain(8, 1);
        z.deed(1, 7000, 5);
        frees(z, 0, 0, 0);
        z.mend(0, 7, 20);
        frees(z, 0, 1, 1);
        FameAhead y = new FameAhead();
        frees(y, 0, 0, 0);
        y.town(0);
        for (int i = 0; i < 10; i++) {
            y.deed(1, 5, 9);
        }
        y.mend(0, 7, 1);
        frees(y, 5, 10, 1023);
        frees(y, 4, 0, 0);
    }

    private static void frees(FameAhead x, int hour, int howMany, int which) {
        Edge.is("at " + hour + ": how many", x.free(0, hour, 0), howMany);
        Edge.is("at " + hour + ": which", x.free(0, hour, 1), which);
    }

    private static void alike() {
        Edge.says(0, "ALIKE: by how many MARKS two of the PEOPLE are SAID alike in a TOWN at an hour; in which TOWNS (bits) they are"
            + " not alike by all.");
        FameAhead x = Due.land(8, 0);
        Edge.is("nothing SAID of both", x.alike(3, 0, 0), 5);
        Edge.is("nowhere unlike", x.alike(3, 0, 1), 0);
        for (int mark = 0; mark < 5; mark++) {
            x.deed(mark, 7100, mark + 1);
            Edge.is("unlike by " + (mark + 1), x.alike(3, 7100, 0), 4 - mark);
            Edge.is("from the other's side", x.alike(30, 7100, 0), 4 - mark);
        }
        Edge.is("an hour ahead", x.alike(3, 7099, 0), 5);
        Edge.is("in another TOWN", x.alike(3, 6100, 0), 5);
        Edge.is("unlike in the last TOWN", x.alike(3, 100, 1), 128);
        x.deed(30, 100, 1);
        Edge.is("in the first, too", x.alike(3, 5100, 1), 129);
        x.deed(30, 7108, 2);
        Edge.is("LOUDER by that MARK", x.alike(3, 7108, 0), 0);
        x.mend(6, 5, 1);
        Edge.is("just unlike by one step", x.alike(3, 7108, 0), 0);
        x.mend(6, 3, 100);
        Edge.is("alike by it", x.alike(3, 7108, 0), 1);
        x.deed(0, 0, 9);
        Edge.is("of others, at 99", x.alike(12, 99, 1), 0);
    }

    private static void mixed() {
        Edge.says(0, "MIXED: if all DEEDS of the other were its own, too: what one would be RECEIVED less what it is.");
        FameAhead x = Due.land(2, 0);
        Edge.is("nothing SAID of both", x.alike(1, 0, 2), 0);
        x.deed(10, 0, 5);
        Edge.is("the other's kindness", x.alike(1, 0, 2), 20);
        Edge.is("nothing to the other", x.alike(10, 0, 2), 0);
        x.deed(0, 0, 5);
        Edge.is("as kind itself", x.alike(1, 0, 2), 0);
        x.deed(11, 0, 9);
        Edge.is("the other's theft", x.alike(1, 0, 2), -72);
        x.deed(1, 0, 8);
        Edge.is("a thief itself", x.alike(1, 0, 2), -8);
        Edge.is("where nothing is HEARD", x.alike(1, 1000, 2), 0);
        Edge.is("a third one", x.alike(31, 0, 2), 20 - 72);
    }

    private static void needsAskedFor() {
        Edge.says(18, "NEEDS: the DEED at th, SAID at to (a TOWN and an hour). BAD; NOT.");
        int[] volumes = {-1, 0, 100, Edge.LEAST, Edge.MOST};
        Edge.refusedEach("needs, pm", Edge.BAD, World.NO_PM, (y, v) -> y.needs(v, 30, 30, 1));
        Edge.refusedEach("needs, th", Edge.BAD, World.NO_TH, (y, v) -> y.needs(1, v, 30, 1));
        Edge.refusedEach("needs, to", Edge.BAD, World.NO_TH, (y, v) -> y.needs(1, 30, v, 1));
        Edge.refusedEach("needs, x", Edge.BAD, volumes, (y, v) -> y.needs(1, 30, 30, v));
        Edge.refused("no WEIGHT", Edge.NOT, World::furnished, y -> y.needs(4, 30, 30, 99));
        Edge.refused("BAD ahead of NOT", Edge.BAD, World::furnished, y -> y.needs(4, 31, 30, 100));
        Edge.refused("a WEIGHT, though DEEDS are FULL", 1, World::full, y -> y.needs(4, 999, 999, 4));
        Edge.refused("an hour without a TOWN", Edge.BAD, y -> { }, y -> y.needs(0, 0, 0, 1));
    }

    private static void latestAskedFor() {
        Edge.says(19, "LATEST: in a TOWN, SAID at to; wx: 100 times the WEIGHT, and x. BAD; NOT.");
        int[] wrong = {-1, 0, 1, 99, 100, 500, 900, 1000, 1001, -101, -999, Edge.LEAST, Edge.MOST};
        Edge.refusedEach("latest, pm", Edge.BAD, World.NO_PM, (y, v) -> y.latest(v, 0, 30, 101));
        Edge.refusedEach("latest, town", Edge.BAD, World.NO_TOWN, (y, v) -> y.latest(1, v, 30, 101));
        Edge.refusedEach("latest, to", Edge.BAD, World.NO_TH, (y, v) -> y.latest(1, 0, v, 101));
        Edge.refusedEach("latest, wx", Edge.BAD, wrong, (y, v) -> y.latest(1, 0, 30, v));
        Edge.refused("no hour", Edge.NOT, World::furnished, y -> y.latest(4, 0, 30, 999));
        Edge.refused("BAD ahead of NOT", Edge.BAD, World::furnished, y -> y.latest(4, 0, 4030, 999));
        Edge.refused("an hour, though DEEDS are FULL", 999, World::full, y -> y.latest(4, 0, 999, 104));
    }

    private static void cutAskedFor() {
        Edge.says(20, "CUT: how many (what 0), which (1). BAD; NOT.");
        int[] whats = {-1, 2, Edge.LEAST, Edge.MOST};
        Edge.refusedEach("cut, deed", Edge.BAD, World.NO_DEED, (y, v) -> y.cut(v, 0, 0));
        Edge.refusedEach("cut, town", Edge.BAD, World.NO_TOWN, (y, v) -> y.cut(0, v, 0));
        Edge.refusedEach("cut, what", Edge.BAD, whats, (y, v) -> y.cut(0, 1, v));
        Edge.refusedEach("cut from its own TOWN, what", Edge.NOT, new int[] {0, 1}, (y, v) -> y.cut(0, 0, v));
        Edge.refused("BAD ahead of NOT", Edge.BAD, World::furnished, y -> y.cut(0, 0, 2));
        Edge.refused("an answer changes nothing either", 1, World::full, y -> y.cut(0, 7, 0));
    }

    private static void freeAskedFor() {
        Edge.says(21, "FREE: how many (what 0), which (1). BAD.");
        int[] whats = {-1, 2, Edge.LEAST, Edge.MOST};
        Edge.refusedEach("free, one", Edge.BAD, World.NO_ONE, (y, v) -> y.free(v, 30, 0));
        Edge.refusedEach("free, hour", Edge.BAD, World.NO_HOUR, (y, v) -> y.free(0, v, 0));
        Edge.refusedEach("free, what", Edge.BAD, whats, (y, v) -> y.free(0, 30, v));
    }

    private static void alikeAskedFor() {
        Edge.says(22, "ALIKE (pq: 10 times the one and the other, unlike): MARKS (what 0), TOWNS at that hour (1: bits),"
            + " MIXED (2). VOID: BAD.");
        int[] pairs = {0, 11, 22, 33, 4, 34, 40, 43, -1, -10, 9, 100, Edge.LEAST, Edge.MOST};
        int[] whats = {-1, 3, Edge.LEAST, Edge.MOST};
        Edge.refusedEach("alike, pq", Edge.VOID, pairs, (y, v) -> y.alike(v, 30, 0));
        for (int what = 0; what < 3; what++) {
            int asked = what;
            Edge.refusedEach("alike, th, what " + what, Edge.VOID, World.NO_TH, (y, v) -> y.alike(1, v, asked));
        }
        Edge.refusedEach("alike, what", Edge.VOID, whats, (y, v) -> y.alike(1, 30, v));
    }
}

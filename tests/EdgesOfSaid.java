/** SAID, RECEIVED, ARRESTED, UNSAID in head 1, head 2 up to ROUTE, and promises 13 to 17. */
final class EdgesOfSaid {
    private EdgesOfSaid() {
    }

    static void run() {
        said();
        received();
        arrested();
        unsaid();
        inATown();
        loudestMark();
        atAnHour();
        home();
        homeAtTheLatest();
        route();
        routeAtTheLatest();
        routeOfLikeOnes();
        routePastArrests();
        saidAskedFor();
        receivedAskedFor();
        hoursAskedFor();
        homeAskedFor();
        routeAskedFor();
    }

    private static void said() {
        Edge.says(0, "SAID of one with a MARK in a TOWN at an hour (0 .. 999): of all DEEDS of it with that MARK HEARD by then"
            + " (the hour itself, too) how LOUD the LOUDEST is (0: none).");
        FameAhead x = World.chain(3, 2);
        x.deed(12, 100, 5);
        x.deed(12, 110, 9);
        x.deed(12, 110, 7);
        x.deed(13, 100, 8);
        x.deed(2, 100, 8);
        x.deed(34, 2999, 1);
        x.deed(34, 2000, 2);
        Edge.is("an hour ahead", x.said(12, 99), 0);
        Edge.is("the hour itself", x.said(12, 100), 20);
        Edge.is("an hour ahead of the second", x.said(12, 109), 19);
        Edge.is("the LOUDEST of three", x.said(12, 110), 36);
        Edge.is("one hour ahead elsewhere", x.said(12, 1100), 0);
        Edge.is("the hour itself elsewhere", x.said(12, 1101), 20);
        Edge.is("another MARK", x.said(13, 110), 31);
        Edge.is("another one", x.said(2, 110), 31);
        Edge.is("none with that MARK", x.said(10, 110), 0);
        Edge.is("none of that one", x.said(22, 110), 0);
        Edge.is("at hour 0", x.said(34, 2000), 8);
        Edge.is("at hour 999", x.said(34, 2999), 4);
        Edge.is("at hour 998", x.said(34, 2998), 0);
    }

    private static void received() {
        Edge.says(0, "RECEIVED: over all MARKS SAID times WORTH.");
        FameAhead x = Due.land(1, 0);
        int[] worth = {9, -9, 5, -3, 2};
        for (int mark = 0; mark < 5; mark++) {
            x.deed(mark, 0, mark + 1);
            x.mend(mark, 6, worth[mark]);
        }
        Edge.is("all five", x.received(0, 0, 0), 4 * 9 - 8 * 9 + 12 * 5 - 16 * 3 + 20 * 2);
        Edge.is("one of whom nothing is SAID", x.received(3, 0, 0), 0);
        Due.tell(x, "99");
        for (int mark = 0; mark < 5; mark++) {
            x.mend(mark, 6, 9);
        }
        Edge.is("as great as may be", x.received(0, 0, 0), 5 * 99 * 9);
        for (int mark = 0; mark < 5; mark++) {
            x.mend(mark, 6, -9);
        }
        Edge.is("as low as may be", x.received(0, 0, 0), -5 * 99 * 9);
    }

    private static void arrested() {
        Edge.says(0, "ARRESTED: the thief's MARK (1) is SAID ARREST or more, and above 0.");
        FameAhead x = Due.land(2, 0);
        x.deed(1, 0, 5);
        x.deed(0, 0, 9);
        x.deed(10, 0, 9);
        x.mend(0, 7, 20);
        Edge.is("just as much", x.received(0, 0, 1), 1);
        x.mend(0, 7, 21);
        Edge.is("one less", x.received(0, 0, 1), 0);
        x.mend(0, 7, 19);
        Edge.is("one more", x.received(0, 0, 1), 1);
        x.mend(0, 7, 0);
        Edge.is("ARREST 0, SAID 1", x.received(0, 152, 1), 1);
        Edge.is("ARREST 0, SAID 0", x.received(0, 160, 1), 0);
        Edge.is("ARREST 0, where it is not HEARD", x.received(0, 1000, 1), 0);
        Edge.is("another MARK than the thief's", x.received(1, 0, 1), 0);
        x.mend(0, 4, 2);
        Edge.is("the DEED has another MARK", x.received(0, 0, 1), 0);
    }

    private static void unsaid() {
        Edge.says(0, "UNSAID: no MARK is SAID.");
        FameAhead x = Due.land(2, 0);
        x.deed(4, 10, 1);
        Edge.is("ahead of it", x.atHour(0, 9, 0), 3);
        Edge.is("one MARK is", x.atHour(0, 10, 0), 2);
        Edge.is("at 1", x.atHour(0, 34, 0), 2);
        Edge.is("faded to 0", x.atHour(0, 42, 0), 3);
        Edge.is("another one", x.atHour(1, 10, 0), 3);
    }

    private static void inATown() {
        Edge.says(0, "IN A TOWN: SAID; RECEIVED; whether ARRESTED; how many MARKS are SAID;");
        FameAhead x = Due.land(2, 0);
        for (int mark = 0; mark < 5; mark++) {
            x.deed(10 + mark, 10 * mark, 9);
        }
        x.mend(0, 7, 36);
        for (int mark = 0; mark < 5; mark++) {
            Edge.is("MARKS an hour ahead of MARK " + mark, x.received(1, Math.max(0, 10 * mark - 1), 2), mark == 0 ? 1 : mark);
            Edge.is("MARKS with MARK " + mark, x.received(1, 10 * mark, 2), mark + 1);
            Edge.is("SAID with MARK " + mark, x.said(10 + mark, 10 * mark), 36);
        }
        Edge.is("ARRESTED an hour ahead", x.received(1, 9, 1), 0);
        Edge.is("ARRESTED", x.received(1, 10, 1), 1);
        Edge.is("RECEIVED then", x.received(1, 10, 0), 35 - 72);
        Edge.each("where nothing is HEARD: received", x, (y, v) -> y.received(1, 1040, v), 0, 0, 0, Edge.NOT);
        Edge.is("MARKS faded to 0", x.received(1, 288, 2), 4);
    }

    private static void loudestMark() {
        Edge.says(0, "the LOUDEST (of like ones the least; NOT)");
        FameAhead x = Due.land(2, 0);
        x.deed(4, 0, 3);
        Edge.is("the only one", x.received(0, 0, 3), 4);
        x.deed(2, 0, 3);
        Edge.is("of two like ones", x.received(0, 0, 3), 2);
        x.deed(0, 8, 3);
        Edge.is("a later one is LOUDER", x.received(0, 8, 3), 0);
        x.deed(0, 0, 2);
        Edge.is("a softer one ahead", x.received(0, 7, 3), 2);
        Edge.is("none where nothing is HEARD", x.received(0, 1000, 3), Edge.NOT);
        Edge.is("none of another one", x.received(1, 0, 3), Edge.NOT);
        x.deed(33, 1000, 1);
        Edge.is("SAID 1", x.received(3, 1024, 3), 3);
        Edge.is("SAID 0", x.received(3, 1032, 3), Edge.NOT);
    }

    private static void atAnHour() {
        Edge.says(0, "AT AN HOUR: in which TOWNS (bits) one is UNSAID, ARRESTED; where RECEIVED is greatest"
            + " (of like ones the least; NOT: no TOWNS).");
        FameAhead x = new FameAhead();
        Edge.each("no TOWNS: atHour", x, (y, v) -> y.atHour(0, 0, v), 0, 0, Edge.NOT);
        x = Due.land(8, 0);
        Edge.each("nothing SAID: atHour", x, (y, v) -> y.atHour(3, 999, v), 255, 0, 0);
        x.deed(1, 0, 9);
        x.deed(1, 7000, 9);
        x.mend(0, 7, 36);
        Edge.each("the first and the last TOWN: atHour", x, (y, v) -> y.atHour(0, 0, v), 126, 129, 1);
        x.mend(1, 6, 1);
        Edge.is("of two like ones", x.atHour(0, 0, 2), 0);
        x.mend(1, 3, 8);
        Edge.is("the later is LOUDER", x.atHour(0, 8, 2), 7);
        for (int town = 1; town < 7; town++) {
            x.deed(1, 1000 * town, town == 5 ? 1 : 9);
        }
        x.mend(1, 6, -9);
        Edge.is("greatest below 0", x.atHour(0, 8, 2), 5);
    }

    private static void home() {
        Edge.says(0, "HOME: from a TOWN at an hour by FEET (the quickest WAY to each TOWN; the TOWN itself at once): the TOWN in"
            + " which one is UNSAID as one comes, to which one comes first (999 at the latest; of like ones the least):"
            + " the hour; it; NOT.");
        FameAhead x = Due.land(5, 0);
        x.road(1, 6);
        x.road(2, 9);
        x.road(12, 2);
        x.road(3, 8);
        x.mend(0, 2, 0);
        x.mend(1, 2, 0);
        x.mend(2, 2, 0);
        x.mend(3, 2, 0);
        Edge.is("the TOWN itself at once", x.home(0, 50, 0), 50);
        Edge.is("it", x.home(0, 50, 1), 0);
        x.deed(0, 0, 9);
        Edge.is("the nearest", x.home(0, 50, 0), 56);
        Edge.is("it", x.home(0, 50, 1), 1);
        x.deed(0, 1000, 9);
        Edge.is("of like ones, one by two ROADS", x.home(0, 50, 0), 58);
        Edge.is("the least", x.home(0, 50, 1), 2);
        x.mend(3, 1, 7);
        Edge.is("the first of all", x.home(0, 50, 1), 3);
        x.deed(0, 3000, 9);
        x.deed(0, 2057, 9);
        Edge.is("all that can be come to are SAID", x.home(0, 50, 0), Edge.NOT);
        Edge.is("it", x.home(0, 50, 1), Edge.NOT);
        x.mend(3, 3, 58);
        Edge.is("SAID just as one comes", x.home(0, 50, 0), Edge.NOT);
        x.mend(3, 3, 59);
        Edge.is("SAID an hour behind", x.home(0, 50, 0), 58);
        Edge.is("the TOWN to which no WAY goes", x.home(0, 4050, 1), 4);
        FameAhead y = World.chain(8, 1);
        y.deed(0, 0, 9);
        for (int town = 0; town < 8; town++) {
            Edge.is("SAID in all eight, from " + town, y.home(0, 1000 * town + 50, 0), Edge.NOT);
            Edge.is("another one, from " + town, y.home(1, 1000 * town + 50, 1), town);
        }
    }

    private static void homeAtTheLatest() {
        FameAhead x = World.chain(2, 9);
        x.mend(0, 2, 0);
        x.deed(0, 980, 9);
        Edge.is("999 itself", x.home(0, 990, 0), 999);
        Edge.is("its TOWN", x.home(0, 990, 1), 1);
        Edge.is("1000 is too late", x.home(0, 991, 0), Edge.NOT);
        Edge.is("its TOWN", x.home(0, 991, 1), Edge.NOT);
        Edge.is("at once at 999", x.home(0, 1999, 0), 999);
        Edge.is("at 999 where one is SAID", x.home(0, 999, 0), Edge.NOT);
        x = Due.land(1, 0);
        x.deed(0, 0, 5);
        Edge.is("faded where one stands, just not", x.home(0, 159, 0), Edge.NOT);
        Edge.is("faded where one stands", x.home(0, 160, 0), 160);
    }

    private static void route() {
        Edge.says(0, "ROUTE: from a TOWN at an hour by FEET along 4 ROADS at most, one after the other: the sum of RECEIVED in all"
            + " TOWNS as one comes to them (999 at the latest; to none in which one is ARRESTED then) as great as may be"
            + " (of like ones fewest ROADS, then the first by TOWNS): that (0 by none); the k-th TOWN; NOT: there are not"
            + " as many.");
        FameAhead x = World.chain(6, 1);
        x.deed(0, 0, 9);
        Due.tell(x, "t=5?90;t=4?1;0");
        Edge.is("a TOWN five ROADS away", x.route(0, 100, -1), 1);
        Edge.each("four ROADS to the one ahead", x, (y, k) -> y.route(0, 100, k), 1, 2, 3, 4, Edge.NOT);
        Edge.is("from four ROADS away", x.route(0, 1100, -1), 91);
        Edge.each("the last is the fourth", x, (y, k) -> y.route(0, 1100, k), 2, 3, 4, 5, Edge.NOT);
        x.mend(0, 6, 0);
        Edge.is("RECEIVED 0 everywhere", x.route(0, 100, -1), 0);
        Edge.is("by none", x.route(0, 100, 0), Edge.NOT);
        x.mend(0, 6, -1);
        Edge.is("RECEIVED ill everywhere", x.route(0, 4100, -1), 0);
        Edge.is("by none", x.route(0, 4100, 0), Edge.NOT);
        x = World.chain(2, 1);
        x.deed(0, 0, 9);
        Due.tell(x, "1-t*9");
        x.mend(0, 6, 9);
        Edge.is("where one is does not count, coming back does", x.route(0, 1100, -1), 18);
        Edge.each("there, back, there", x, (y, k) -> y.route(0, 1100, k), 0, 1, 0, Edge.NOT);
        x.deed(31, 1000, 9);
        Edge.is("of another one, RECEIVED ill", x.route(3, 100, -1), 0);
        Edge.is("of one of whom nothing is SAID", x.route(2, 100, -1), 0);
        Edge.is("of the first again", x.route(0, 100, -1), 18);
        x = Due.land(1, 0);
        x.deed(0, 0, 9);
        Edge.is("no ROADS", x.route(0, 0, -1), 0);
        Edge.is("no ROADS, no TOWN", x.route(0, 0, 0), Edge.NOT);
    }

    private static void routeAtTheLatest() {
        FameAhead x = World.chain(2, 24);
        x.deed(0, 0, 9);
        Due.tell(x, "10");
        Edge.is("four ROADS till 999", x.route(0, 999 - 96, -1), 40);
        Edge.is("the fourth would be at 1000", x.route(0, 1000 - 96, -1), 30);
        Edge.is("no fourth TOWN", x.route(0, 1000 - 96, 3), Edge.NOT);
        Edge.is("one till 999", x.route(0, 975, -1), 10);
        Edge.is("none till 999", x.route(0, 976, -1), 0);
        Edge.is("none from 999", x.route(0, 999, 0), Edge.NOT);
    }

    private static void routeOfLikeOnes() {
        FameAhead x = Due.land(8, 0);
        x.road(7, 1);
        x.road(6, 1);
        x.road(76, 1);
        x.deed(0, 0, 9);
        Due.tell(x, "t>5&a>0");
        Edge.is("four TOWNS of 6 and 7", x.route(0, 100, -1), 4);
        Edge.each("the first by TOWNS", x, (y, k) -> y.route(0, 100, k), 6, 7, 6, 7, Edge.NOT);
        FameAhead z = Due.land(8, 0);
        z.road(6, 1);
        z.road(7, 1);
        z.road(76, 1);
        z.deed(0, 0, 9);
        Due.tell(z, "t>5&a>0");
        Edge.each("the first by TOWNS, by ROADS told the other way round", z, (y, k) -> y.route(0, 100, k), 6, 7, 6, 7, Edge.NOT);
        Due.tell(x, "t>5&a=1");
        Edge.is("at hour 2 alone", x.route(0, 1, -1), 1);
        Edge.each("fewest ROADS, then the least", x, (y, k) -> y.route(0, 1, k), 6, Edge.NOT);
        Due.tell(x, "t=7&a=2");
        Edge.is("in TOWN 7 at hour 3", x.route(0, 0, -1), 1);
        Edge.each("of three ROADS the first by TOWNS", x, (y, k) -> y.route(0, 0, k), 6, 0, 7, Edge.NOT);
    }

    private static void routePastArrests() {
        FameAhead x = World.chain(3, 5);
        x.deed(0, 0, 9);
        x.deed(1, 0, 9);
        Due.tell(x, "m=1?60*(t=1)*(a<12);t=2?70");
        Edge.is("ARRESTED as one comes", x.route(0, 0, -1), 0);
        Edge.is("none", x.route(0, 0, 0), Edge.NOT);
        Edge.is("still as a is 11", x.route(0, 9, -1), 0);
        Edge.is("no more as a is 12", x.route(0, 10, -1), 140);
        x.mend(0, 7, 61);
        Edge.is("not by that ARREST, but RECEIVED ill on the way", x.route(0, 0, -1), -120 + 70 + 70);
        x.mend(1, 6, 0);
        Edge.is("to where one is ARRESTED nowhere", x.route(0, 0, -1), 140);
        x.mend(0, 7, 60);
        Edge.is("from where one would be ARRESTED, and could not come back", x.route(0, 1004, -1), 70);
        Edge.each("to the other", x, (y, k) -> y.route(0, 1004, k), 2, Edge.NOT);
        Edge.is("from where one would be ARRESTED", x.route(0, 1005, -1), 140);
    }

    private static void saidAskedFor() {
        Edge.says(13, "SAID. BAD.");
        FameAhead x = new FameAhead();
        World.full(x);
        Edge.is("of one 0 with MARK 0 in TOWN 0 at 0", x.said(0, 0), 0);
        Edge.is("of one 3 with MARK 4 in TOWN 7 at 999", x.said(34, 7999), 0);
        Edge.refusedEach("said, pm", Edge.BAD, World.NO_PM, (y, v) -> y.said(v, 30));
        Edge.refusedEach("said, th", Edge.BAD, World.NO_TH, (y, v) -> y.said(1, v));
        Edge.refused("said in TOWN 8 of eight", Edge.BAD, World::full, y -> y.said(0, 8000));
        Edge.refused("said where no TOWN is", Edge.BAD, y -> { }, y -> y.said(0, 0));
    }

    private static void receivedAskedFor() {
        Edge.says(14, "RECEIVED (what 0), ARRESTED (1), MARKS (2), the LOUDEST (3; NOT). VOID: BAD.");
        FameAhead x = Due.land(1, 0);
        for (int mark = 0; mark < 5; mark++) {
            Edge.is("MARKS", x.received(0, 0, 2), mark);
            x.deed(mark, 0, 1);
        }
        Edge.each("received", x, (y, v) -> y.received(0, 0, v), 0, 0, 5, 0);
        Edge.each("received of nobody", x, (y, v) -> y.received(3, 999, v), 0, 0, 0, Edge.NOT);
        int[] whats = {-1, 4, Edge.LEAST, Edge.MOST};
        Edge.refusedEach("received, one", Edge.VOID, World.NO_ONE, (y, v) -> y.received(v, 30, 0));
        Edge.refusedEach("received, th", Edge.VOID, World.NO_TH, (y, v) -> y.received(0, v, 0));
        Edge.refusedEach("received, what", Edge.VOID, whats, (y, v) -> y.received(0, 30, v));
        Edge.refused("the LOUDEST where none is", Edge.NOT, World::furnished, y -> y.received(3, 30, 3));
        Edge.refused("BAD ahead of NOT", Edge.VOID, World::furnished, y -> y.received(3, 4000, 3));
    }

    private static void hoursAskedFor() {
        Edge.says(15, "UNSAID (what 0: bits), ARRESTED (1: bits), where best (2; NOT). BAD.");
        FameAhead x = new FameAhead();
        World.furnished(x);
        Edge.is("hour 0", x.atHour(0, 0, 0), 15);
        Edge.is("hour 999", x.atHour(3, 999, 0), 15);
        int[] whats = {-1, 3, Edge.LEAST, Edge.MOST};
        Edge.refusedEach("atHour, one", Edge.BAD, World.NO_ONE, (y, v) -> y.atHour(v, 30, 0));
        Edge.refusedEach("atHour, hour", Edge.BAD, World.NO_HOUR, (y, v) -> y.atHour(0, v, 1));
        Edge.refusedEach("atHour, what", Edge.BAD, whats, (y, v) -> y.atHour(0, 30, v));
        Edge.refused("where best of no TOWNS", Edge.NOT, y -> { }, y -> y.atHour(0, 0, 2));
        Edge.refused("BAD ahead of NOT", Edge.BAD, y -> { }, y -> y.atHour(4, 0, 2));
    }

    private static void homeAskedFor() {
        Edge.says(16, "HOME: the hour (what 0), the TOWN (1). BAD; NOT.");
        int[] whats = {-1, 2, Edge.LEAST, Edge.MOST};
        Edge.refusedEach("home, one", Edge.BAD, World.NO_ONE, (y, v) -> y.home(v, 30, 0));
        Edge.refusedEach("home, th", Edge.BAD, World.NO_TH, (y, v) -> y.home(0, v, 0));
        Edge.refusedEach("home, what", Edge.BAD, whats, (y, v) -> y.home(0, 30, v));
        Edge.refusedEach("home, what", Edge.NOT, new int[] {0, 1}, (y, v) -> y.home(0, 70, v));
    }

    private static void routeAskedFor() {
        Edge.says(17, "ROUTE: that (k -1; VOID: BAD), the k-th TOWN (NOT).");
        FameAhead x = World.chain(2, 1);
        x.deed(0, 0, 9);
        Edge.is("k -1", x.route(0, 0, -1), 36 * 4);
        Edge.each("k", x, (y, k) -> y.route(0, 0, k), 1, 0, 1, 0, Edge.NOT, Edge.NOT);
        Edge.is("k far behind", x.route(0, 0, Edge.MOST), Edge.NOT);
        Edge.refusedEach("route, one", Edge.VOID, World.NO_ONE, (y, v) -> y.route(v, 30, -1));
        Edge.refusedEach("route, th", Edge.VOID, World.NO_TH, (y, v) -> y.route(0, v, -1));
        Edge.refusedEach("route, k", Edge.VOID, new int[] {-2, -3, Edge.LEAST}, (y, v) -> y.route(0, 30, v));
        Edge.refused("no fifth", Edge.NOT, World::furnished, y -> y.route(0, 30, 4));
        Edge.refused("BAD ahead of NOT", Edge.VOID, World::furnished, y -> y.route(4, 30, 4));
    }
}

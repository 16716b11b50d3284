/** The face's constants, the paragraph "Answers, of several the one named first", how numbers are told, and promise 45. */
final class EdgesOfAnswers {
    private EdgesOfAnswers() {
    }

    static void run() {
        constants();
        answers();
        nothingChanges();
        ownMemory();
        fiveHundredAndTwelveCalls();
        numbersTold();
        townsAndHours();
        routesFromTownsAndHours();
        countAskedFor();
        theSameAnswers();
    }

    private static void constants() {
        Edge.says(0, "public static final int BAD = -1, NOT = -2, FULL = -3, STATE = -5, VOID = -2000000000;");
        Edge.is("BAD", FameAhead.BAD, -1);
        Edge.is("NOT", FameAhead.NOT, -2);
        Edge.is("FULL", FameAhead.FULL, -3);
        Edge.is("STATE", FameAhead.STATE, -5);
        Edge.is("VOID", FameAhead.VOID, -2000000000);
    }

    private static void answers() {
        Edge.says(0, "Answers, of several the one named first: BAD (-1): no such number, or it is not as said; NOT (-2): as told; FULL (-3);"
            + " STATE (-5): as told; -11 to -14. VOID is -2000000000.");
        Edge.refused("BAD ahead of NOT: heard", Edge.BAD, EdgesOfAnswers::nothingReached, x -> x.heard(0, 2));
        Edge.refused("NOT: heard", Edge.NOT, EdgesOfAnswers::nothingReached, x -> x.heard(0, 1));
        Edge.refused("BAD ahead of NOT: home", Edge.BAD, EdgesOfAnswers::nothingReached, x -> x.home(0, 2050, 2));
        Edge.refused("BAD ahead of NOT: needs", Edge.BAD, EdgesOfAnswers::nothingReached, x -> x.needs(5, 0, 1050, 9));
        Edge.refused("NOT: needs", Edge.NOT, EdgesOfAnswers::nothingReached, x -> x.needs(4, 0, 1050, 9));
        Edge.refused("BAD ahead of NOT: latest", Edge.BAD, EdgesOfAnswers::nothingReached, x -> x.latest(4, 0, 1050, 1009));
        Edge.refused("NOT: latest", Edge.NOT, EdgesOfAnswers::nothingReached, x -> x.latest(4, 0, 1050, 909));
        Edge.refused("BAD ahead of NOT: cut", Edge.BAD, EdgesOfAnswers::nothingReached, x -> x.cut(0, 0, -1));
        Edge.refused("NOT: cut", Edge.NOT, EdgesOfAnswers::nothingReached, x -> x.cut(0, 0, 1));
        Edge.refused("BAD ahead of NOT: first", Edge.BAD, EdgesOfAnswers::nothingReached, x -> x.first(0, 109, -1));
        Edge.refused("NOT: first", Edge.NOT, EdgesOfAnswers::nothingReached, x -> x.first(0, 109, 1));
        Edge.refused("BAD ahead of FULL: town", Edge.BAD, World::full, x -> x.town(-1));
        Edge.refused("BAD ahead of FULL: road", Edge.BAD, World::full, x -> x.road(0, 1));
        Edge.refused("BAD ahead of FULL: deed", Edge.BAD, World::full, x -> x.deed(5, 0, 1));
        Edge.refused("BAD ahead of FULL: feed", Edge.BAD, World::full, x -> x.feed(-1));
        Edge.refused("BAD ahead of FULL: does", Edge.BAD, World::full, x -> x.does(5, 1));
        Edge.refused("BAD ahead of FULL: body", Edge.BAD, World::full, x -> x.body(8));
        Edge.refused("-11 ahead of -12: shift", Edge.NOTHING, World::furnished, x -> x.shift(3, 0, 4, 0, 1));
        Edge.refused("-12 ahead of -13: shift", Edge.OTHER_KIND, World::furnished, x -> x.shift(3, 0, 0, 60, 1));
    }

    /** Two TOWNS without a ROAD, a DEED in the first. */
    private static void nothingReached(FameAhead x) {
        x.town(0);
        x.town(0);
        x.deed(0, 0, 9);
    }

    private static void nothingChanges() {
        Edge.says(0, "What is answered so changes nothing.");
        Edge.refused("all that are refused, one after the other", Edge.STATE, EdgesOfAnswers::allButChanges, x -> {
            x.town(10);
            x.road(0, 1);
            x.deed(0, 0, 0);
            x.deeds(0, 0, 1);
            x.mend(0, 0, 10);
            x.mend(9, 7, 5);
            x.feed(300);
            x.way(0, 2);
            x.needs(4, 30, 30, 99);
            x.latest(4, 0, 30, 999);
            x.walk(0, 3);
            x.walk(0, 9);
            x.does(5, 1);
            x.body(8);
            x.keep(0, 8);
            x.row(0, 5, 1);
            x.row(0, 0, 61);
            x.row(0, 0, -1);
            x.put(0, 3, 1);
            x.put(3, 0, 1);
            x.put(4, 0, 1);
            x.shift(0, 0, 1, 0, 1);
            x.shift(0, 0, 0, 1, 3);
            x.taken(0, 8);
            return x.redo();
        });
    }

    private static void allButChanges(FameAhead x) {
        World.furnished(x);
        x.redo();
        x.redo();
    }

    private static void ownMemory() {
        Edge.says(0, "All memory is the class's own.");
        FameAhead x = new FameAhead();
        FameAhead y = new FameAhead();
        World.furnished(x);
        Edge.each("count of an object made ahead of it", y, (z, v) -> z.count(v), 0, 0, 0, 0, 0, 0, 0);
        Edge.is("its ARREST", y.of(0, 7), 60);
        Edge.is("its SHELF", y.taken(0, 0), Edge.NOTHING);
        World.full(y);
        Edge.each("count of the other", x, (z, v) -> z.count(v), 4, 4, 6, 3, 3, 8, 8);
        Edge.is("the other's HOUR", x.of(0, 3), 12);
    }

    private static void fiveHundredAndTwelveCalls() {
        Edge.says(0, "An object is used for at most 512 calls after it has been made");
        FameAhead x = new FameAhead();
        x.town(0);
        x.deed(0, 0, 9);
        for (int i = 0; i < 508; i++) {
            x.received(0, i, 0);
        }
        Edge.is("the 511th", x.mend(0, 7, 5), 60);
        Edge.is("the 512th", x.undo(), 0);
    }

    private static void numbersTold() {
        Edge.says(0, "th: 1000 times the TOWN, and the hour; pm: 10 times one of PEOPLE, and the MARK");
        FameAhead x = Due.land(8, 0);
        Edge.is("the greatest of both", x.deed(34, 7999, 9), 0);
        Edge.is("WHO", x.of(0, 9), 3);
        Edge.is("MARK", x.of(0, 4), 4);
        Edge.is("TOWN", x.of(0, 10), 7);
        Edge.is("HOUR", x.of(0, 3), 999);
        Edge.is("SAID", x.said(34, 7999), 36);
        Edge.is("the least of both", x.deed(0, 0, 1), 1);
        Edge.is("WHO", x.of(1, 9), 0);
        Edge.is("TOWN", x.of(1, 10), 0);
        Edge.is("hour 999 is not the next TOWN's", x.deed(10, 1999, 1), 2);
        Edge.is("TOWN", x.of(2, 10), 1);
        Edge.is("nor 1000 the last hour of that ahead", x.deed(10, 1000, 1), 3);
        Edge.is("HOUR", x.of(3, 3), 0);
        for (int one = 0; one < 4; one++) {
            Edge.is("MARK 0 of one " + one, x.deed(10 * one, 0, 1), 4 + one);
            Edge.is("WHO", x.of(4 + one, 9), one);
        }
        FameAhead y = Due.land(1, 0);
        for (int pm : new int[] {0, 10, 20, 30, 4, 14, 24, 34}) {
            int deed = y.does(pm, 1);
            Edge.is("WHO of " + pm, y.of(deed, 9), pm / 10);
            Edge.is("MARK of " + pm, y.of(deed, 4), pm % 10);
        }
    }

    /** One 2 is SAID a thief in one TOWN at one hour alone, and each call that is told both by one number knows it there. */
    private static void townsAndHours() {
        for (int town : new int[] {0, 1, 7}) {
            for (int hour : new int[] {0, 1, 998, 999}) {
                FameAhead x = Due.land(8, 0);
                Due.tell(x, "!a*(10*t+w)");
                x.deed(21, 1000 * town + hour, 9);
                saidThereAlone(x, town, hour, 10 * town + 9);
            }
        }
    }

    private static void saidThereAlone(FameAhead x, int town, int hour, int volume) {
        int th = 1000 * town + hour;
        int nextTown = (town + 1) % 8;
        int next = 1000 * nextTown + hour;
        String at = " at " + th;
        Edge.is("loud" + at, x.loud(0, th), volume);
        Edge.is("said" + at, x.said(21, th), volume);
        Edge.is("received" + at, x.received(2, th, 0), -2 * volume);
        Edge.is("received in the next TOWN, not" + at, x.received(2, next, 0), 0);
        Edge.is("home" + at, x.home(2, th, 0), Edge.NOT);
        Edge.is("home in the next TOWN, not" + at, x.home(2, next, 0), hour);
        Edge.is("home in the next TOWN, not" + at, x.home(2, next, 1), nextTown);
        Edge.is("needs" + at, x.needs(30, th, th, volume - 1), 8);
        Edge.is("needs in the next TOWN what is SAID" + at, x.needs(21, next, th, volume), 1);
        Edge.is("latest" + at, x.latest(30, town, th, 900 + volume), hour);
        Edge.is("latest in the next TOWN of what is SAID" + at, x.latest(21, nextTown, th, 100 + volume), 999);
        Edge.is("alike by MARKS" + at, x.alike(23, th, 0), 4);
        Edge.is("not alike in TOWNS" + at, x.alike(23, next, 1), 1 << town);
        Edge.is("MIXED" + at, x.alike(32, th, 2), -2 * volume);
        Due.lay(x, 0, 0, 0, volume);
        Edge.is("judge" + at, x.judge(0, 2, th), Edge.NOT);
        Edge.is("judge in the next TOWN, not" + at, x.judge(0, 2, next), 1);
        Edge.is("which" + at, x.which(0, 2, th, 1), 1);
        Edge.is("which in the next TOWN, not" + at, x.which(0, 2, next, 1), Edge.NOT);
        Edge.is("first" + at, x.first(21, 100 * town + volume, 0), hour);
        Edge.is("the last" + at, x.first(21, 100 * town + volume, 1), hour);
        Edge.is("UNSAID" + at, x.atHour(2, hour, 0), 255 - (1 << town));
        x.mend(0, 7, volume);
        Edge.is("ARRESTED" + at, x.atHour(2, hour, 1), 1 << town);
        Edge.is("free" + at, x.free(2, hour, 1), 1);
        Edge.is("where best" + at, x.atHour(2, hour, 2), town == 0 ? 1 : 0);
    }

    private static void routesFromTownsAndHours() {
        FameAhead x = Due.land(8, 0);
        x.road(67, 1);
        x.road(1, 1);
        x.mend(0, 2, 0);
        x.mend(1, 2, 0);
        x.deed(30, 6000, 1);
        x.deed(30, 1000, 1);
        Due.tell(x, "a+1");
        int[] from = {7000, 6000, 0, 1000, 6998, 7998, 998, 999, 1998};
        int[] due = {2 + 4, 3 + 5, 2 + 4, 3 + 5, 0, 99, 99, 0, 0};
        int[] firstTown = {6, 7, 1, 0, Edge.NOT, 6, 1, Edge.NOT, Edge.NOT};
        for (int i = 0; i < from.length; i++) {
            Edge.is("route from " + from[i], x.route(3, from[i], -1), due[i]);
            Edge.is("its first TOWN", x.route(3, from[i], 0), firstTown[i]);
            Edge.is("of another one", x.route(2, from[i], -1), 0);
        }
    }

    private static void countAskedFor() {
        Edge.says(45, "How many: 0 TOWNS, 1 ROADS, 2 DEEDS, 3 bytes on THE TAPE, 4 changes that may be UNDONE, 5 BODIES, 6 bodies that ran in"
            + " the latest act() (all, kept or not). BAD.");
        FameAhead x = new FameAhead();
        Edge.each("count of a new object", x, (y, v) -> y.count(v), 0, 0, 0, 0, 0, 0, 0, Edge.BAD);
        World.furnished(x);
        Edge.each("count", x, (y, v) -> y.count(v), 4, 4, 6, 3, 3, 8, 8, Edge.BAD);
        FameAhead y = new FameAhead();
        World.full(y);
        Edge.each("count of a full one", y, (z, v) -> z.count(v), 8, 12, 10, 120, 40, 50, 0, Edge.BAD);
        Edge.refusedEach("count", Edge.BAD, new int[] {-1, 7, 8, Edge.LEAST, Edge.MOST}, (z, v) -> z.count(v));
    }

    /** What only asks changes nothing: asked again it answers the same, and so does all else. */
    private static void theSameAnswers() {
        Edge.says(0, "Ahead of the calls `way`, `heard`, `loud`, `said`, `received`, `atHour`, `home`, `route`, `needs`, `latest`, `cut`,"
            + " `free`, `alike` the interface says: ---- in thought.");
        Edge.refused("all that is in thought", 0, World::furnished, x -> {
            for (int i = 0; i < 3; i++) {
                x.way(3, 1);
                x.heard(0, 2);
                x.loud(0, 1030);
                x.said(1, 1030);
                x.received(0, 1030, i);
                x.atHour(0, 30, i);
                x.home(0, 5, i % 2);
                x.route(0, 20, i);
                x.needs(4, 0, 60, 30);
                x.latest(4, 0, 2060, 510);
                x.cut(0, 2, i % 2);
                x.free(0, 40, i % 2);
                x.alike(1, 1060, i);
                x.judge(0, 0, 30);
                x.which(0, 0, 30, i);
                x.first(1, 120, i % 2);
                x.news(0, i - 2);
                x.garbled(0, 2, i % 2);
                x.drawn(0, 2, 5, 120 + i % 2);
            }
            return 0;
        });
    }
}

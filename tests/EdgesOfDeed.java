/** Head 4 from IN DEED on, and promises 29 to 35. */
final class EdgesOfDeed {
    private EdgesOfDeed() {
    }

    static void run() {
        atFirst();
        walking();
        doing();
        led();
        changes();
        fortyChanges();
        deedsAreNone();
        image();
        walkAskedFor();
        doesAskedFor();
        ledAskedFor();
        imageAskedFor();
        backAskedFor();
        undoAskedFor();
        redoAskedFor();
    }

    private static void atFirst() {
        Edge.says(0, "IN DEED: it is NOW hour 0; PEOPLE are in TOWN 0 at first");
        FameAhead x = new FameAhead();
        for (int round = 0; round < 2; round++) {
            Edge.is("NOW", x.of(0, 12), 0);
            Edge.is("led(4)", x.led(4), 0);
            for (int one = 0; one < 4; one++) {
                Edge.is("where " + one + " is", x.of(one, 11), 0);
            }
            x.town(0);
        }
        Edge.is("a deed at once", x.does(30, 1), 0);
        Edge.is("its TOWN", x.of(0, 10), 0);
        Edge.is("its HOUR", x.of(0, 3), 0);
    }

    private static void walking() {
        Edge.says(0, "one WALKS a ROAD (from where it is; NOW goes on by LONG; NOW is 999 at most)");
        FameAhead x = World.chain(3, 24);
        Edge.is("a ROAD that begins elsewhere", x.walk(0, 1), Edge.NOT);
        Edge.is("from its one end", x.walk(0, 0), 1);
        Edge.is("NOW", x.led(4), 24);
        Edge.is("from its other end", x.walk(0, 0), 0);
        Edge.is("NOW", x.led(4), 48);
        Edge.is("another one goes on from then", x.walk(3, 0), 1);
        Edge.is("NOW", x.led(4), 72);
        for (int i = 0; i < 38; i++) {
            x.walk(3, 1);
        }
        Edge.is("NOW", x.led(4), 984);
        Edge.is("24 hours are too many", x.walk(0, 0), Edge.STATE);
        x.mend(0, 1, 16);
        Edge.is("16 are too many", x.walk(0, 0), Edge.STATE);
        Edge.is("NOW", x.led(4), 984);
        Edge.is("where it is", x.of(0, 11), 0);
        x.mend(0, 1, 15);
        Edge.is("15 are not", x.walk(0, 0), 1);
        Edge.is("NOW", x.led(4), 999);
        x.mend(0, 1, 1);
        Edge.is("1 is too many then", x.walk(0, 0), Edge.STATE);
        Edge.is("FEET go where no CARTERS do", walkedUncarted(), 1);
    }

    private static int walkedUncarted() {
        FameAhead x = World.chain(2, 24);
        x.mend(0, 2, 0);
        return x.walk(2, 0);
    }

    private static void doing() {
        Edge.says(0, "DOES a deed where it is NOW (a DEED comes)");
        FameAhead x = World.chain(2, 7);
        x.deed(0, 0, 1);
        x.walk(2, 0);
        Edge.is("where it walked", x.does(24, 9), 1);
        Edge.is("where another stayed", x.does(31, 1), 2);
        int[] due = {7, 4, 9, 2, 1};
        int[] whats = {3, 4, 5, 9, 10};
        for (int i = 0; i < whats.length; i++) {
            Edge.is("of what " + whats[i], x.of(1, whats[i]), due[i]);
        }
        Edge.is("TOWN of the other", x.of(2, 10), 0);
        Edge.is("HOUR of the other", x.of(2, 3), 7);
        Edge.is("count(2)", x.count(2), 3);
    }

    private static void led() {
        Edge.says(0, "LED: roads walked, hours, arrests (ARRESTED as one came), deeds done, NOW.");
        FameAhead x = World.chain(2, 7);
        x.mend(0, 7, 36);
        x.deed(1, 1007, 9);
        Edge.each("led at first", x, (y, v) -> y.led(v), 0, 0, 0, 0, 0);
        x.walk(0, 0);
        Edge.each("led as one came just at it", x, (y, v) -> y.led(v), 1, 7, 1, 0, 7);
        x.does(1, 9);
        Edge.each("ARRESTED where it is is none", x, (y, v) -> y.led(v), 1, 7, 1, 1, 7);
        x.deed(1, 0, 9);
        x.does(0, 0);
        Edge.each("what others tell is none that it did", x, (y, v) -> y.led(v), 1, 7, 1, 1, 7);
        x.walk(1, 0);
        Edge.each("another one isn't", x, (y, v) -> y.led(v), 2, 14, 1, 1, 14);
        x.mend(0, 7, 37);
        x.walk(0, 0);
        Edge.each("not by that ARREST", x, (y, v) -> y.led(v), 3, 21, 1, 1, 21);
    }

    private static void changes() {
        Edge.says(0, "CHANGES (all numbers of mend(); telling the same number is none) can be UNDONE, the latest first, and DONE AGAIN"
            + " (as long as no other came behind)");
        int[] values = {9, 24, 0, 999, 4, 9, -9, 99, 12};
        FameAhead x = World.chain(2, 5);
        x.deed(0, 0, 1);
        for (int what = 0; what < 9; what++) {
            int was = x.of(0, what);
            Edge.is("the same number, what " + what, x.mend(0, what, was), was);
            Edge.is("is no change", x.count(4), what);
            Edge.is("another, what " + what, x.mend(0, what, values[what]), was);
            Edge.is("is one", x.count(4), what + 1);
        }
        int[] first = {0, 5, 1, 0, 0, 1, 1, 60, 1};
        for (int what = 8; what >= 0; what--) {
            Edge.is("not yet UNDONE", x.of(0, what), values[what]);
            Edge.is("undo", x.undo(), what);
            Edge.is("UNDONE, what " + what, x.of(0, what), first[what]);
        }
        Edge.is("no more to be UNDONE", x.undo(), Edge.STATE);
        for (int what = 0; what < 9; what++) {
            Edge.is("redo", x.redo(), 8 - what);
            Edge.is("DONE AGAIN, what " + what, x.of(0, what), values[what]);
        }
        Edge.is("no more to be DONE AGAIN", x.redo(), Edge.STATE);
        x.undo();
        x.undo();
        Edge.is("the same number hinders nothing", x.mend(0, 7, 60), 60);
        Edge.is("nor one that can't be", x.mend(0, 7, 100), Edge.VOID);
        Edge.is("redo behind it", x.redo(), 1);
        Edge.is("another behind", x.mend(0, 0, 0), 9);
        Edge.is("ends DONE AGAIN", x.redo(), Edge.STATE);
        Edge.is("count(4)", x.count(4), 9);
        Edge.is("the one that came behind is UNDONE first", x.undo(), 8);
        Edge.is("by it", x.of(0, 0), 9);
        Edge.is("then the one ahead", x.undo(), 7);
        Edge.is("by it", x.of(0, 7), 60);
    }

    private static void fortyChanges() {
        Edge.says(0, "40 at most are kept; deeds are none.");
        for (int n : new int[] {39, 40, 41, 80, 85}) {
            FameAhead x = Due.land(1, 0);
            for (int i = 1; i <= n; i++) {
                x.mend(0, 7, i % 60);
            }
            int kept = Math.min(n, 40);
            Edge.is("of " + n + ": count(4)", x.count(4), kept);
            for (int i = kept - 1; i >= 0; i--) {
                Edge.is("of " + n + ": undo", x.undo(), i);
            }
            Edge.is("of " + n + ": no more", x.undo(), Edge.STATE);
            Edge.is("of " + n + ": the oldest stay", x.of(0, 7), n > 40 ? (n - 40) % 60 : 60);
            for (int i = kept - 1; i >= 0; i--) {
                Edge.is("of " + n + ": redo", x.redo(), i);
            }
            Edge.is("of " + n + ": no more", x.redo(), Edge.STATE);
            Edge.is("of " + n + ": the latest", x.of(0, 7), n % 60);
        }
        fortyOfManyNumbers();
        FameAhead x = Due.land(1, 0);
        for (int i = 1; i <= 40; i++) {
            x.mend(0, 7, i);
        }
        x.undo();
        x.undo();
        x.mend(0, 7, 50);
        Edge.is("39 behind one that ended two", x.count(4), 39);
        x.mend(0, 7, 51);
        x.mend(0, 7, 52);
        Edge.is("40 again", x.count(4), 40);
        for (int i = 0; i < 40; i++) {
            x.undo();
        }
        Edge.is("one alone was lost", x.of(0, 7), 1);
    }

    /** DEAF of eight TOWNS, WORTH of five MARKS and WEIGHT of ten DEEDS, one after the other, twice, then eight more. */
    private static void fortyOfManyNumbers() {
        FameAhead x = Due.land(8, 0);
        for (int deed = 0; deed < 10; deed++) {
            x.deed(0, 0, 1);
        }
        int[] before = new int[54];
        for (int i = 0; i < 54; i++) {
            before[i] = x.mend(numberOf(i), whatOf(i), 2 + i % 8);
        }
        for (int i = 53; i >= 14; i--) {
            Edge.is("change " + i, x.of(numberOf(i), whatOf(i)), 2 + i % 8);
            Edge.is("undo " + i, x.undo(), i - 14);
            Edge.is("UNDONE " + i, x.of(numberOf(i), whatOf(i)), before[i]);
        }
        Edge.is("no more", x.undo(), Edge.STATE);
        for (int i = 14; i < 54; i++) {
            Edge.is("redo " + i, x.redo(), 53 - i);
            Edge.is("DONE AGAIN " + i, x.of(numberOf(i), whatOf(i)), 2 + i % 8);
        }
    }

    private static int numberOf(int i) {
        int k = i % 23;
        return k < 8 ? k : k < 13 ? k - 8 : k - 13;
    }

    private static int whatOf(int i) {
        int k = i % 23;
        return k < 8 ? 0 : k < 13 ? 6 : 5;
    }

    private static void deedsAreNone() {
        FameAhead x = World.chain(2, 5);
        x.mend(0, 7, 5);
        x.undo();
        x.deed(0, 0, 1);
        x.does(0, 1);
        x.walk(0, 0);
        x.image();
        x.town(0);
        x.road(2, 5);
        Due.tell(x, "1");
        Edge.is("what else comes is no change", x.count(4), 0);
        Edge.is("nor hinders it what was UNDONE", x.redo(), 0);
        Edge.is("ARREST", x.of(0, 7), 5);
        x.undo();
        Edge.is("DEEDS stay", x.count(2), 2);
        Edge.is("none more", x.undo(), Edge.STATE);
    }

    private static void image() {
        Edge.says(0, "AN IMAGE keeps NOW, where PEOPLE are, what LED tells.");
        FameAhead x = World.chain(3, 7);
        x.mend(0, 7, 1);
        x.does(1, 9);
        x.walk(0, 0);
        x.walk(0, 0);
        x.walk(3, 0);
        Edge.is("image", x.image(), 21);
        x.walk(0, 0);
        x.walk(1, 0);
        x.walk(3, 1);
        x.does(21, 9);
        x.mend(1, 1, 9);
        Edge.each("led", x, (y, v) -> y.led(v), 6, 42, 3, 2, 42);
        Edge.is("back", x.back(), 21);
        Edge.each("led again", x, (y, v) -> y.led(v), 3, 21, 2, 1, 21);
        int[] places = {0, 0, 0, 1};
        for (int one = 0; one < 4; one++) {
            Edge.is("where " + one + " is again", x.of(one, 11), places[one]);
        }
        Edge.is("NOW again", x.of(0, 12), 21);
        Edge.is("DEEDS stay", x.count(2), 2);
        Edge.is("changes stay", x.of(1, 1), 9);
        Edge.is("and may be UNDONE", x.undo(), 1);
    }

    private static void walkAskedFor() {
        Edge.says(29, "One WALKS a ROAD: the TOWN then. BAD; NOT: the ROAD does not begin there; STATE: NOW would be more than 999.");
        Edge.refusedEach("walk, one", Edge.BAD, World.NO_ONE, (y, v) -> y.walk(v, 0));
        Edge.refusedEach("walk, road", Edge.BAD, World.NO_ROAD, (y, v) -> y.walk(0, v));
        Edge.refusedEach("walk of one in TOWN 1, road", Edge.NOT, new int[] {2, 3}, (y, v) -> y.walk(0, v));
        Edge.refused("NOW would be 1000", Edge.STATE, y -> late(y, 7), y -> y.walk(0, 0));
        Edge.refused("NOW would be 1016", Edge.STATE, y -> late(y, 23), y -> y.walk(0, 0));
        Edge.refused("NOT ahead of STATE", Edge.NOT, y -> late(y, 23), y -> y.walk(0, 1));
        Edge.refused("BAD ahead of NOT and STATE, one", Edge.BAD, y -> late(y, 23), y -> y.walk(4, 1));
        Edge.refused("BAD ahead of NOT and STATE, road", Edge.BAD, y -> late(y, 23), y -> y.walk(0, 2));
        FameAhead x = new FameAhead();
        late(x, 6);
        Edge.is("NOW is 999", x.walk(0, 0), 1);
    }

    /** NOW is 993, and one 0 in TOWN 0, from which ROAD 0 is as long as told. */
    private static void late(FameAhead x, int length) {
        for (int town = 0; town < 3; town++) {
            x.town(0);
        }
        x.road(1, 24);
        x.road(12, 24);
        for (int i = 0; i < 41; i++) {
            x.walk(1, 0);
        }
        x.mend(0, 1, 9);
        x.walk(2, 0);
        x.mend(0, 1, length);
    }

    private static void doesAskedFor() {
        Edge.says(30, "One DOES a deed (pm) of a WEIGHT: the DEED's number. BAD (also: its TOWN is not there); FULL.");
        Edge.refusedEach("does, pm", Edge.BAD, World.NO_PM, (y, v) -> y.does(v, 1));
        Edge.refusedEach("does, weight", Edge.BAD, World.NO_WEIGHT, (y, v) -> y.does(0, v));
        Edge.refused("its TOWN is not there", Edge.BAD, y -> { }, y -> y.does(0, 1));
        Edge.refused("an eleventh", Edge.FULL, World::full, y -> y.does(34, 9));
        Edge.refused("an eleventh of WEIGHT 0", Edge.BAD, World::full, y -> y.does(34, 0));
        FameAhead x = Due.land(1, 0);
        for (int i = 0; i < 10; i++) {
            Edge.is("does", x.does(i % 2 == 0 ? 0 : 34, i % 2 == 0 ? 1 : 9), i);
        }
        Edge.is("the eleventh", x.does(0, 1), Edge.FULL);
        Edge.is("led(3)", x.led(3), 10);
        FameAhead y = new FameAhead();
        Edge.is("ahead of TOWN 0", y.does(0, 1), Edge.BAD);
        y.town(0);
        Edge.is("behind TOWN 0", y.does(0, 1), 0);
    }

    private static void ledAskedFor() {
        Edge.says(31, "LED: roads (what 0), hours (1), arrests (2), deeds (3), NOW (4). BAD.");
        FameAhead x = new FameAhead();
        World.furnished(x);
        Edge.each("led", x, (y, v) -> y.led(v), 2, 30, 0, 2, 30, Edge.BAD);
        Edge.refusedEach("led", Edge.BAD, new int[] {-1, 5, Edge.LEAST, Edge.MOST}, (y, v) -> y.led(v));
    }

    private static void imageAskedFor() {
        Edge.says(32, "AN IMAGE is kept: NOW.");
        FameAhead x = World.chain(2, 5);
        Edge.is("at hour 0", x.image(), 0);
        x.walk(0, 0);
        Edge.is("laid back to hour 0", x.back(), 0);
        x.walk(0, 0);
        x.walk(0, 0);
        Edge.is("a later one", x.image(), 10);
        x.walk(0, 0);
        Edge.is("is laid back instead", x.back(), 10);
        Edge.is("image without TOWNS", new FameAhead().image(), 0);
    }

    private static void backAskedFor() {
        Edge.says(33, "It is laid back (DEEDS that came since stay): NOW. STATE: there is none.");
        Edge.refused("back", Edge.STATE, y -> { }, y -> y.back());
        Edge.refused("back of a full land", Edge.STATE, World::full, y -> y.back());
        FameAhead x = World.chain(2, 5);
        x.image();
        x.does(0, 1);
        x.walk(0, 0);
        x.does(2, 3);
        x.deed(11, 1000, 9);
        Edge.is("back", x.back(), 0);
        Edge.is("all three DEEDS stay", x.count(2), 3);
        Edge.is("in their TOWN", x.of(1, 10), 1);
        Edge.is("at their HOUR", x.of(1, 3), 5);
        Edge.is("none was done, as LED tells", x.led(3), 0);
        Edge.is("back again", x.back(), 0);
    }

    private static void undoAskedFor() {
        Edge.says(34, "UNDONE: how many may still be. STATE: none.");
        Edge.refused("undo of a new object", Edge.STATE, y -> { }, y -> y.undo());
        Edge.refused("undo behind the last", Edge.STATE, y -> { y.mend(0, 7, 5); y.undo(); }, y -> y.undo());
        FameAhead x = new FameAhead();
        x.mend(0, 7, 5);
        x.mend(0, 7, 6);
        Edge.is("undo of two", x.undo(), 1);
        Edge.is("undo of one", x.undo(), 0);
        Edge.is("count(4)", x.count(4), 0);
    }

    private static void redoAskedFor() {
        Edge.says(35, "DONE AGAIN: how many may still be. STATE: none.");
        Edge.refused("redo of a new object", Edge.STATE, y -> { }, y -> y.redo());
        Edge.refused("redo behind the last", Edge.STATE, y -> { y.mend(0, 7, 5); y.undo(); y.redo(); }, y -> y.redo());
        Edge.refused("redo behind another change", Edge.STATE, y -> { y.mend(0, 7, 5); y.undo(); y.mend(0, 7, 6); }, y -> y.redo());
        Edge.refused("redo where nothing was UNDONE", Edge.STATE, World::full, y -> y.redo());
        FameAhead x = new FameAhead();
        x.mend(0, 7, 5);
        x.mend(0, 7, 6);
        x.undo();
        x.undo();
        Edge.is("redo of two", x.redo(), 1);
        Edge.is("redo of one", x.redo(), 0);
        Edge.is("count(4)", x.count(4), 2);
    }
}

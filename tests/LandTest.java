/** Promises 1 to 3, 6, 7, 10 and 45: TOWNS, ROADS, the numbers mended and told, WAYS. */
public final class LandTest {
    public static void main(String[] args) {
        aNewObject();
        towns();
        roads();
        ways();
        mendsOfTheLand();
        mendsOfTheRest();
        ofTheRest();
        Due.close();
    }

    private static void aNewObject() {
        FameAhead x = new FameAhead();
        for (int what = 0; what <= 6; what++) {
            Due.is("count of a new object", x.count(what), 0);
        }
        Due.is("count(-1)", x.count(-1), -1);
        Due.is("count(7)", x.count(7), -1);
        long[] worth = {1, -2, 1, 1, -1};
        for (int mark = 0; mark < 5; mark++) {
            Due.is("WORTH at first", x.of(mark, 6), worth[mark]);
        }
        Due.is("ARREST at first", x.of(0, 7), 60);
        Due.is("GARBLE at first", x.of(0, 8), 1);
        Due.is("NOW at first", x.of(0, 12), 0);
        for (int one = 0; one < 4; one++) {
            Due.is("TOWN in deed at first", x.of(one, 11), 0);
        }
    }

    private static void towns() {
        FameAhead x = new FameAhead();
        Due.is("town(-1)", x.town(-1), -1);
        Due.is("town(10)", x.town(10), -1);
        for (int i = 0; i < 8; i++) {
            Due.is("town", x.town(i == 7 ? 9 : i), i);
        }
        Due.is("a ninth town", x.town(0), -3);
        Due.is("a ninth town that is bad", x.town(10), -1);
        Due.is("count(0)", x.count(0), 8);
        Due.is("of(7, 0)", x.of(7, 0), 9);
        Due.is("of(3, 0)", x.of(3, 0), 3);
    }

    private static void roads() {
        FameAhead x = Due.land(3, 0);
        Due.is("road(0, 5): like towns", x.road(0, 5), -1);
        Due.is("road(22, 5): like towns", x.road(22, 5), -1);
        Due.is("road(3, 5): no such town", x.road(3, 5), -1);
        Due.is("road(30, 5): no such town", x.road(30, 5), -1);
        Due.is("road(-1, 5)", x.road(-1, 5), -1);
        Due.is("road(-12, 5)", x.road(-12, 5), -1);
        Due.is("road(112, 5)", x.road(112, 5), -1);
        Due.is("road(1, 0)", x.road(1, 0), -1);
        Due.is("road(1, 25)", x.road(1, 25), -1);
        for (int i = 0; i < 12; i++) {
            Due.is("road", x.road(i % 2 == 0 ? 1 : 21, 24 - i), i);
        }
        Due.is("a thirteenth road", x.road(1, 1), -3);
        Due.is("a thirteenth road that is bad", x.road(1, 0), -1);
        Due.is("count(1)", x.count(1), 12);
        Due.is("of(3, 1)", x.of(3, 1), 21);
        Due.is("CARTED at first", x.of(3, 2), 1);
    }

    private static void ways() {
        FameAhead x = Due.land(5, 7);
        x.road(1, 9);
        x.road(21, 3);
        x.road(2, 13);
        x.road(23, 1);
        Due.is("by FEET over two ROADS", x.way(2, 0), 12);
        Due.is("by CARTERS half, cut up", x.way(2, 1), 7);
        Due.is("both directions", x.way(20, 1), 7);
        Due.is("one ROAD's half", x.way(1, 1), 5);
        Due.is("half of 1 cut up", x.way(23, 1), 1);
        Due.is("farther", x.way(3, 0), 13);
        Due.is("the same TOWN", x.way(11, 0), 0);
        Due.is("the same TOWN by CARTERS", x.way(44, 1), 0);
        Due.is("no WAY", x.way(4, 0), -2);
        Due.is("no WAY by CARTERS", x.way(40, 1), -2);
        Due.is("way(5, 0)", x.way(5, 0), -1);
        Due.is("way(50, 0)", x.way(50, 0), -1);
        Due.is("way(-1, 0)", x.way(-1, 0), -1);
        Due.is("way(1, 2)", x.way(1, 2), -1);
        Due.is("way(1, -1)", x.way(1, -1), -1);
        x.mend(1, 2, 0);
        Due.is("by FEET where no CARTERS go", x.way(2, 0), 12);
        Due.is("CARTERS round it", x.way(2, 1), 7);
        Due.is("CARTERS round it, farther", x.way(12, 1), 12);
        x.mend(2, 2, 0);
        Due.is("no CARTERS any more", x.way(2, 1), -2);
        x.undo();
        x.undo();
        Due.is("CARTERS again", x.way(12, 1), 2);
        x.mend(1, 1, 24);
        Due.is("a longer ROAD", x.way(2, 0), 13);
    }

    private static void mendsOfTheLand() {
        FameAhead x = Due.land(2, 4);
        x.road(1, 10);
        Due.is("mend DEAF", x.mend(1, 0, 9), 4);
        Due.is("of DEAF", x.of(1, 0), 9);
        Due.is("mend LONG", x.mend(0, 1, 24), 10);
        Due.is("mend LONG again", x.mend(0, 1, 1), 24);
        Due.is("of LONG", x.of(0, 1), 1);
        Due.is("mend CARTED", x.mend(0, 2, 0), 1);
        Due.is("of CARTED", x.of(0, 2), 0);
        long[][] wrong = {{0, 0, -1}, {0, 0, 10}, {2, 0, 1}, {-1, 0, 1}, {0, 1, 0}, {0, 1, 25}, {1, 1, 5},
            {-1, 1, 5}, {0, 2, -1}, {0, 2, 2}, {1, 2, 1}, {0, -1, 1}, {0, 9, 1}, {0, 10, 1}, {0, 11, 0}, {0, 12, 0}};
        refused(x, wrong);
        Due.is("refusals changed nothing", x.count(4), 4);
    }

    private static void mendsOfTheRest() {
        FameAhead x = Due.land(1, 0);
        x.deed(13, 500, 7);
        Due.is("mend HOUR", x.mend(0, 3, 999), 500);
        Due.is("of HOUR", x.of(0, 3), 999);
        Due.is("mend MARK", x.mend(0, 4, 0), 3);
        Due.is("of MARK", x.of(0, 4), 0);
        Due.is("mend WEIGHT", x.mend(0, 5, 1), 7);
        Due.is("of WEIGHT", x.of(0, 5), 1);
        Due.is("mend WORTH", x.mend(4, 6, -9), -1);
        Due.is("of WORTH", x.of(4, 6), -9);
        Due.is("mend ARREST", x.mend(0, 7, 99), 60);
        Due.is("of ARREST", x.of(0, 7), 99);
        Due.is("mend GARBLE", x.mend(0, 8, 12), 1);
        Due.is("of GARBLE", x.of(0, 8), 12);
        long[][] wrong = {{0, 3, -1}, {0, 3, 1000}, {1, 3, 5}, {-1, 3, 5}, {0, 4, -1}, {0, 4, 5}, {1, 4, 2},
            {0, 5, 0}, {0, 5, 10}, {1, 5, 5}, {5, 6, 1}, {-1, 6, 1}, {0, 6, 10}, {0, 6, -10}, {0, 7, -1}, {0, 7, 100},
            {1, 7, 5}, {-1, 7, 5}, {0, 8, -1}, {0, 8, 13}, {1, 8, 5}};
        refused(x, wrong);
        Due.is("refusals changed nothing", x.count(4), 6);
    }

    private static void refused(FameAhead x, long[][] calls) {
        for (long[] call : calls) {
            int number = (int) call[0];
            int what = (int) call[1];
            Due.is("mend(" + number + ", " + what + ", " + call[2] + ")", x.mend(number, what, (int) call[2]),
                -2000000000);
        }
    }

    private static void ofTheRest() {
        FameAhead x = Due.land(2, 0);
        x.deed(23, 1500, 7);
        Due.is("of WHO", x.of(0, 9), 2);
        Due.is("of TOWN", x.of(0, 10), 1);
        int[][] wrong = {{1, 9}, {-1, 9}, {1, 10}, {4, 11}, {-1, 11}, {1, 12}, {-1, 12}, {0, 13}, {0, -1},
            {2, 0}, {0, 1}, {0, 2}, {1, 3}, {1, 4}, {1, 5}, {5, 6}, {1, 7}, {1, 8}, {0, 100}};
        for (int[] call : wrong) {
            Due.is("of(" + call[0] + ", " + call[1] + ")", x.of(call[0], call[1]), -2000000000);
        }
    }
}

/** Promises 14 to 17: RECEIVED, AT AN HOUR, HOME, ROUTE. */
public final class ReceptionTest {
    public static void main(String[] args) {
        received();
        atHour();
        home();
        homeOfLikeOnes();
        route();
        routeByTies();
        routePastArrests();
        Due.close();
    }

    private static FameAhead twoTowns() {
        FameAhead x = Due.land(2, 0);
        x.road(1, 8);
        x.deed(1, 0, 9);
        x.deed(2, 0, 4);
        x.deed(14, 0, 9);
        return x;
    }

    private static void received() {
        FameAhead x = twoTowns();
        Due.is("RECEIVED", x.received(0, 0, 0), -2 * 36 + 16);
        Due.is("RECEIVED later in another TOWN", x.received(0, 1004, 0), -2 * 35 + 15);
        Due.is("not HEARD there yet", x.received(0, 1003, 0), 0);
        Due.is("hour 0 there", x.received(0, 1000, 0), 0);
        Due.is("another one", x.received(1, 0, 0), -36);
        Due.is("not ARRESTED", x.received(0, 0, 1), 0);
        x.mend(0, 7, 36);
        Due.is("ARRESTED", x.received(0, 0, 1), 1);
        Due.is("another one isn't", x.received(1, 0, 1), 0);
        x.mend(0, 7, 37);
        Due.is("just not ARRESTED", x.received(0, 0, 1), 0);
        x.mend(0, 7, 0);
        Due.is("ARREST 0", x.received(0, 999, 1), 0);
        Due.is("ARREST 0, said", x.received(0, 100, 1), 1);
        Due.is("MARKS", x.received(0, 0, 2), 2);
        Due.is("no MARKS", x.received(2, 0, 2), 0);
        Due.is("the LOUDEST", x.received(0, 0, 3), 1);
        Due.is("no LOUDEST", x.received(2, 0, 3), -2);
        x.deed(0, 0, 9);
        Due.is("of like ones the least", x.received(0, 0, 3), 0);
        int[][] wrong = {{4, 0, 0}, {-1, 0, 0}, {0, 2000, 0}, {0, -1, 0}, {0, 0, 4}, {0, 0, -1}};
        for (int[] call : wrong) {
            Due.is("received", x.received(call[0], call[1], call[2]), -2000000000);
        }
    }

    private static void atHour() {
        FameAhead x = twoTowns();
        x.town(0);
        Due.is("UNSAID before", x.atHour(0, 3, 0), 6);
        Due.is("UNSAID after", x.atHour(0, 4, 0), 4);
        Due.is("UNSAID, another one", x.atHour(3, 4, 0), 7);
        x.mend(0, 7, 36);
        Due.is("ARRESTED", x.atHour(0, 4, 1), 1);
        x.mend(0, 7, 35);
        Due.is("ARRESTED in both", x.atHour(0, 4, 1), 3);
        Due.is("best where UNSAID", x.atHour(0, 4, 2), 2);
        Due.is("of like ones the least", x.atHour(0, 0, 2), 1);
        x.mend(1, 6, 9);
        Due.is("best where praised", x.atHour(0, 4, 2), 0);
        int[][] wrong = {{4, 0, 0}, {-1, 0, 0}, {0, 1000, 0}, {0, -1, 0}, {0, 0, 3}, {0, 0, -1}};
        for (int[] call : wrong) {
            Due.is("atHour", x.atHour(call[0], call[1], call[2]), -1);
        }
        Due.is("no TOWNS", new FameAhead().atHour(0, 0, 2), -2);
        Due.is("no TOWNS, UNSAID", new FameAhead().atHour(0, 0, 0), 0);
    }

    private static void home() {
        FameAhead x = Due.land(4, 0);
        x.road(1, 4);
        x.road(12, 24);
        x.road(23, 10);
        x.mend(1, 2, 0);
        x.deed(0, 0, 9);
        Due.is("one is UNSAID at once", x.home(1, 500, 0), 500);
        Due.is("there", x.home(1, 500, 1), 0);
        Due.is("the hour", x.home(0, 0, 0), 28);
        Due.is("the TOWN", x.home(0, 0, 1), 2);
        Due.is("from between", x.home(0, 1002, 0), 26);
        Due.is("999 at the latest", x.home(0, 999, 0), 999);
        x.mend(0, 3, 990);
        Due.is("too late", x.home(0, 995, 0), -2);
        Due.is("too late for a TOWN", x.home(0, 995, 1), -2);
        x.mend(1, 1, 1);
        x.mend(0, 1, 3);
        Due.is("just in time", x.home(0, 995, 0), 999);
        Due.is("just in time, the TOWN", x.home(0, 995, 1), 2);
        Due.is("just too late", x.home(0, 996, 0), -2);
        int[][] wrong = {{4, 0, 0}, {-1, 0, 0}, {0, 4000, 0}, {0, -1, 0}, {0, 0, 2}, {0, 0, -1}};
        for (int[] call : wrong) {
            Due.is("home", x.home(call[0], call[1], call[2]), -1);
        }
    }

    private static void homeOfLikeOnes() {
        FameAhead x = Due.land(4, 0);
        x.road(3, 6);
        x.road(2, 6);
        x.road(1, 7);
        x.mend(0, 2, 0);
        x.mend(1, 2, 0);
        x.mend(2, 2, 0);
        x.deed(0, 0, 9);
        Due.is("of like ones the least", x.home(0, 0, 1), 2);
        Due.is("their hour", x.home(0, 0, 0), 6);
        Due.is("CARTERS come later than feet never", x.home(0, 1000, 1), 1);
    }

    private static void route() {
        FameAhead x = Due.land(3, 0);
        x.road(1, 1);
        x.road(12, 1);
        x.deed(0, 0, 9);
        Due.tell(x, "t=2?50;t=1?3;1");
        Due.is("there and back", x.route(0, 10, -1), 3 + 50 + 3 + 50);
        Due.is("first", x.route(0, 10, 0), 1);
        Due.is("second", x.route(0, 10, 1), 2);
        Due.is("third", x.route(0, 10, 2), 1);
        Due.is("fourth", x.route(0, 10, 3), 2);
        Due.is("no fifth", x.route(0, 10, 4), -2);
        Due.is("nor a later one", x.route(0, 10, Integer.MAX_VALUE), -2);
        Due.is("two ROADS till 999", x.route(0, 997, -1), 53);
        Due.is("two TOWNS till 999", x.route(0, 997, 2), -2);
        Due.is("none behind 999", x.route(0, 999, -1), 0);
        Due.is("the TOWN itself does not count", x.route(0, 2999, -1), 0);
        x.mend(0, 6, -1);
        Due.is("0 by none", x.route(0, 10, -1), 0);
        Due.is("no first", x.route(0, 10, 0), -2);
        int[][] wrong = {{4, 0, 0}, {-1, 0, 0}, {0, 3000, 0}, {0, -1, 0}, {0, 0, -2}, {0, 0, Integer.MIN_VALUE}};
        for (int[] call : wrong) {
            Due.is("route", x.route(call[0], call[1], call[2]), -2000000000);
        }
    }

    private static void routeByTies() {
        FameAhead x = Due.land(4, 0);
        x.road(3, 5);
        x.road(2, 5);
        x.road(1, 5);
        x.road(1, 2);
        x.deed(0, 0, 9);
        Due.tell(x, "a<8&t>0");
        Due.is("one hour is as good as another", x.route(0, 4, -1), 1);
        Due.is("the first by TOWNS", x.route(0, 4, 0), 1);
        Due.is("fewest ROADS", x.route(0, 4, 1), -2);
        Due.tell(x, "t=3");
        Due.is("the one that counts", x.route(0, 4, 0), 3);
        Due.is("twice", x.route(0, 4, -1), 2);
        Due.is("again", x.route(0, 4, 2), 3);
        Due.is("three ROADS, not four", x.route(0, 4, 3), -2);
        Due.tell(x, "t=1&d+a<10");
        Due.is("the shorter of two ROADS", x.route(0, 0, -1), 2);
        Due.is("goes by it, too", x.route(0, 0, 2), 1);
    }

    private static void routePastArrests() {
        FameAhead x = Due.land(3, 0);
        x.road(1, 1);
        x.road(12, 1);
        x.road(2, 20);
        x.deed(0, 0, 9);
        x.deed(1, 0, 9);
        Due.tell(x, "m=1?50*(t=1);t=2?90");
        Due.is("past the TOWN of ill fame, twice by the long ROAD", x.route(0, 50, -1), 180);
        Due.is("three ROADS are enough", x.route(0, 50, 3), -2);
        x.mend(1, 6, 1);
        Due.is("through it", x.route(0, 50, -1), 50 + 90 + 50 + 90);
        x.mend(0, 7, 50);
        Due.is("ARRESTED there", x.route(0, 50, -1), 180);
        Due.is("round it", x.route(0, 50, 0), 2);
        Due.is("from the farthest TOWN at hour 0", x.route(0, 2000, 0), 0);
        Due.is("home", x.route(0, 50, 1), 0);
        Due.is("from where one would be ARRESTED", x.route(0, 1050, 0), 2);
    }
}

/** Promises 4, 5, 11 to 13: DEEDS, DEEDS FROM A ROW, HEARD, LOUD, SAID. */
public final class DeedTest {
    public static void main(String[] args) {
        deeds();
        fromRows();
        fromRowsThatEnd();
        heard();
        loud();
        said();
        Due.close();
    }

    private static void deeds() {
        FameAhead x = Due.land(2, 0);
        int[][] wrong = {{-1, 0, 1}, {5, 0, 1}, {19, 0, 1}, {40, 0, 1}, {0, -1, 1}, {0, 2000, 1}, {0, 0, 0}, {0, 0, 10}};
        for (int[] call : wrong) {
            Due.is("deed(" + call[0] + ", " + call[1] + ", " + call[2] + ")", x.deed(call[0], call[1], call[2]), -1);
        }
        for (int i = 0; i < 10; i++) {
            Due.is("deed", x.deed(34, 1999, 9), i);
        }
        Due.is("an eleventh deed", x.deed(0, 0, 1), -3);
        Due.is("an eleventh deed that is bad", x.deed(0, 0, 0), -1);
        Due.is("count(2)", x.count(2), 10);
        Due.is("WHO", x.of(9, 9), 3);
        Due.is("TOWN", x.of(9, 10), 1);
        Due.is("HOUR", x.of(9, 3), 999);
        Due.is("MARK", x.of(9, 4), 4);
        Due.is("WEIGHT", x.of(9, 5), 9);
    }

    private static void fromRows() {
        FameAhead x = Due.land(2, 0);
        Due.is("no ROW at all", x.deeds(0, 0, 1), 0);
        Due.lay(x, 0, 1, 7, 1, 0, 20, 3, 4, 3, 1, 999, 0, 9, 0, 0, 0, 4, 1);
        Due.is("shelf -1", x.deeds(-1, 0, 1), -1);
        Due.is("shelf 6", x.deeds(6, 0, 1), -1);
        Due.is("place -1", x.deeds(0, -1, 1), 0);
        Due.is("place -5, a five ahead of the ROW", x.deeds(0, -5, 2), 0);
        Due.is("place least", x.deeds(0, Integer.MIN_VALUE, 10), 0);
        Due.is("place -1 of nothing", x.deeds(5, -1, 1), 0);
        Due.is("place -1, n 0", x.deeds(0, -1, 0), -1);
        Due.is("n 0", x.deeds(0, 1, 0), -1);
        Due.is("n 11", x.deeds(0, 1, 11), -1);
        Due.lay(x, 1, 2, 1, 0, 20, 3, 4);
        Due.is("a ROW of ints", x.deeds(1, 0, 1), -12);
        Due.is("place -1 of a ROW of ints", x.deeds(1, -1, 1), -12);
        x.body(0);
        x.keep(2, 0);
        Due.is("a WORD", x.deeds(2, 0, 1), -12);
        Due.is("two of three", x.deeds(0, 1, 2), 2);
        Due.is("WHO", x.of(0, 9), 1);
        Due.is("TOWN", x.of(1, 10), 1);
        Due.is("HOUR", x.of(0, 3), 20);
        Due.is("MARK", x.of(0, 4), 3);
        Due.is("WEIGHT", x.of(1, 5), 9);
        Due.is("all three", x.deeds(0, 1, 10), 3);
        Due.is("count(2)", x.count(2), 5);
        Due.is("they are none that one DID", x.led(3), 0);
    }

    private static void fromRowsThatEnd() {
        FameAhead x = Due.land(2, 0);
        Due.lay(x, 0, 1, 1, 0, 20, 3, 4, 3, 1, 999, 0);
        Due.is("ends within a five", x.deeds(0, 0, 2), 1);
        Due.is("ends at once", x.deeds(0, 9, 2), 0);
        Due.is("begins behind its end", x.deeds(0, 100, 2), 0);
        Due.is("begins far behind its end", x.deeds(0, Integer.MAX_VALUE, 10), 0);
        long[][] wrong = {{4, 0, 0, 0, 1}, {-1, 0, 0, 0, 1}, {0, 2, 0, 0, 1}, {0, -1, 0, 0, 1}, {0, 0, 1000, 0, 1},
            {0, 0, -1, 0, 1}, {0, 0, 0, 5, 1}, {0, 0, 0, -1, 1}, {0, 0, 0, 0, 0}, {0, 0, 0, 0, 10}};
        for (long[] five : wrong) {
            Due.lay(x, 0, 1, 2, 1, 30, 2, 2, five[0], five[1], five[2], five[3], five[4], 2, 1, 30, 2, 2);
            Due.is("one is not so", x.deeds(0, 5, 2), 0);
        }
        Due.is("one ahead of it", x.deeds(0, 0, 3), 1);
        Due.is("count(2)", x.count(2), 2);
        for (int i = 0; i < 7; i++) {
            x.deed(0, 0, 1);
        }
        Due.lay(x, 0, 1, 2, 1, 30, 2, 2, 2, 1, 30, 2, 2);
        Due.is("FULL within the ROW", x.deeds(0, 0, 2), 1);
        Due.is("FULL", x.deeds(0, 0, 2), 0);
    }

    private static void heard() {
        FameAhead x = new FameAhead();
        x.town(2);
        x.town(0);
        x.town(9);
        x.road(1, 7);
        x.deed(0, 10, 1);
        x.deed(0, 1999, 1);
        Due.is("its own TOWN's DEAF", x.heard(0, 0), 12);
        Due.is("by CARTERS", x.heard(0, 1), 14);
        Due.is("behind hour 999", x.heard(1, 0), 1005);
        Due.is("never", x.heard(0, 2), -2);
        Due.is("deed 2", x.heard(2, 0), -1);
        Due.is("deed -1", x.heard(-1, 0), -1);
        Due.is("town 3", x.heard(0, 3), -1);
        Due.is("town -1", x.heard(0, -1), -1);
        x.mend(0, 2, 0);
        Due.is("no CARTERS", x.heard(0, 1), -2);
        Due.is("no CARTERS in its own", x.heard(0, 0), 12);
    }

    private static void loud() {
        FameAhead x = new FameAhead();
        x.town(3);
        x.town(0);
        x.town(0);
        x.road(1, 20);
        x.deed(0, 10, 3);
        Due.is("ahead of HEARD", x.loud(0, 12), 0);
        Due.is("at HEARD", x.loud(0, 13), 12);
        Due.is("a by 8, cut", x.loud(0, 20), 12);
        Due.is("a by 8", x.loud(0, 21), 11);
        Due.is("d by 4, cut", x.loud(0, 1020), 10);
        Due.is("0 at least", x.loud(0, 999), 0);
        Due.is("never HEARD", x.loud(0, 2500), 0);
        x.mend(0, 1, 1);
        x.mend(0, 0, 0);
        x.mend(0, 3, 0);
        Due.is("at hour 0 of another TOWN", x.loud(0, 1000), 0);
        Due.is("at hour 0 of its own", x.loud(0, 0), 12);
        Due.is("deed 1", x.loud(1, 0), -1);
        Due.is("deed -1", x.loud(-1, 0), -1);
        Due.is("town 3", x.loud(0, 3000), -1);
        Due.is("th -1", x.loud(0, -1), -1);
    }

    private static void said() {
        FameAhead x = Due.land(2, 0);
        x.deed(12, 100, 5);
        x.deed(12, 110, 9);
        x.deed(12, 120, 2);
        x.deed(13, 100, 8);
        x.deed(2, 100, 9);
        Due.is("nothing yet", x.said(12, 99), 0);
        Due.is("the hour itself", x.said(12, 100), 20);
        Due.is("the LOUDEST", x.said(12, 120), 35);
        Due.is("another MARK", x.said(13, 120), 30);
        Due.is("another one", x.said(2, 120), 34);
        Due.is("a MARK that is not said", x.said(11, 120), 0);
        Due.is("a TOWN that never hears", x.said(12, 1120), 0);
        x.mend(0, 3, 0);
        Due.is("hour 0 of a TOWN that never hears", x.said(12, 1000), 0);
        Due.is("hour 0", x.said(12, 0), 20);
        Due.is("said(15, 0)", x.said(15, 0), -1);
        Due.is("said(40, 0)", x.said(40, 0), -1);
        Due.is("said(-1, 0)", x.said(-1, 0), -1);
        Due.is("said(0, 2000)", x.said(0, 2000), -1);
        Due.is("said(0, -1000)", x.said(0, -1000), -1);
    }
}

/** Promises 29 to 35: WALKING, DOING, LED, THE IMAGE, UNDONE, DONE AGAIN. */
public final class InDeedTest {
    public static void main(String[] args) {
        walk();
        arrests();
        does();
        image();
        imageKeepsTheRest();
        undo();
        redo();
        fortyAreKept();
        Due.close();
    }

    private static void walk() {
        FameAhead x = Due.land(3, 0);
        x.road(1, 10);
        x.road(21, 24);
        Due.is("a ROAD from elsewhere", x.walk(0, 1), -2);
        Due.is("one 4", x.walk(4, 0), -1);
        Due.is("one -1", x.walk(-1, 0), -1);
        Due.is("road 2", x.walk(0, 2), -1);
        Due.is("road -1", x.walk(0, -1), -1);
        Due.is("nobody walked", x.led(4), 0);
        Due.is("there", x.walk(0, 0), 1);
        Due.is("on", x.walk(0, 1), 2);
        Due.is("back again", x.walk(0, 1), 1);
        Due.is("another one", x.walk(3, 0), 1);
        Due.is("where one is", x.of(0, 11), 1);
        Due.is("where the other is", x.of(3, 11), 1);
        Due.is("where a third is", x.of(1, 11), 0);
        Due.is("NOW", x.of(0, 12), 68);
        Due.is("roads", x.led(0), 4);
        Due.is("hours", x.led(1), 68);
        Due.is("LED's NOW", x.led(4), 68);
        for (int i = 0; i < 38; i++) {
            x.walk(0, 1);
        }
        Due.is("NOW is late", x.led(4), 980);
        Due.is("more than 999", x.walk(0, 1), -5);
        x.mend(1, 1, 20);
        Due.is("a ROAD that begins elsewhere comes ahead of STATE", x.walk(1, 1), -2);
        Due.is("more than 999 by one", x.walk(0, 1), -5);
        x.mend(1, 1, 19);
        Due.is("999 at most", x.walk(0, 1), 2);
        Due.is("NOW is 999", x.led(4), 999);
        Due.is("roads", x.led(0), 43);
        Due.is("led(-1)", x.led(-1), -1);
        Due.is("led(5)", x.led(5), -1);
    }

    private static void arrests() {
        FameAhead x = Due.land(2, 0);
        x.road(1, 10);
        x.mend(0, 7, 30);
        x.deed(1, 0, 9);
        x.deed(11, 1000, 7);
        x.walk(0, 0);
        Due.is("the first is", x.led(2), 1);
        x.walk(1, 0);
        Due.is("the second isn't", x.led(2), 1);
        x.walk(0, 0);
        Due.is("again", x.led(2), 2);
        x.mend(0, 7, 99);
        x.walk(0, 0);
        Due.is("not by that ARREST", x.led(2), 2);
    }

    private static void does() {
        FameAhead x = new FameAhead();
        Due.is("its TOWN is not there", x.does(0, 1), -1);
        x.town(0);
        x.town(0);
        x.road(1, 10);
        x.walk(2, 0);
        Due.is("does(5, 1)", x.does(5, 1), -1);
        Due.is("does(40, 1)", x.does(40, 1), -1);
        Due.is("does(-1, 1)", x.does(-1, 1), -1);
        Due.is("does(0, 0)", x.does(0, 0), -1);
        Due.is("does(0, 10)", x.does(0, 10), -1);
        Due.is("none was done", x.led(3), 0);
        Due.is("does", x.does(24, 9), 0);
        Due.is("WHO", x.of(0, 9), 2);
        Due.is("TOWN", x.of(0, 10), 1);
        Due.is("HOUR", x.of(0, 3), 10);
        Due.is("MARK", x.of(0, 4), 4);
        Due.is("WEIGHT", x.of(0, 5), 9);
        Due.is("another one elsewhere", x.does(31, 1), 1);
        Due.is("its TOWN", x.of(1, 10), 0);
        for (int i = 2; i < 10; i++) {
            Due.is("does", x.does(0, 1), i);
        }
        Due.is("FULL", x.does(0, 1), -3);
        Due.is("deeds done", x.led(3), 10);
    }

    private static void image() {
        FameAhead x = Due.land(3, 0);
        x.road(1, 10);
        x.mend(0, 7, 1);
        x.deed(1, 1000, 9);
        Due.is("there is none", x.back(), -5);
        x.walk(0, 0);
        x.does(0, 1);
        Due.is("image", x.image(), 10);
        x.walk(0, 0);
        x.walk(1, 0);
        x.does(0, 1);
        Due.is("NOW", x.led(4), 30);
        Due.is("back", x.back(), 10);
        Due.is("NOW again", x.of(0, 12), 10);
        Due.is("one is there again", x.of(0, 11), 1);
        Due.is("the other, too", x.of(1, 11), 0);
        int[] led = {1, 10, 1, 1, 10};
        for (int what = 0; what < 5; what++) {
            Due.is("led(" + what + ")", x.led(what), led[what]);
        }
        Due.is("DEEDS that came since stay", x.count(2), 3);
        x.walk(0, 0);
        Due.is("back once more", x.back(), 10);
        x.walk(0, 0);
        Due.is("a later image", x.image(), 20);
        x.walk(0, 0);
        Due.is("back to the later one", x.back(), 20);
    }

    private static void imageKeepsTheRest() {
        FameAhead x = Due.land(2, 0);
        x.road(1, 10);
        x.image();
        x.mend(0, 1, 5);
        x.walk(0, 0);
        Due.is("back", x.back(), 0);
        Due.is("what was mended stays", x.of(0, 1), 5);
        Due.is("and may be UNDONE", x.count(4), 1);
    }

    private static void undo() {
        FameAhead x = Due.land(2, 3);
        x.road(1, 10);
        x.deed(1, 0, 5);
        Due.is("none", x.undo(), -5);
        Due.is("none again", x.redo(), -5);
        int[][] mends = {{1, 0, 7}, {0, 1, 12}, {0, 2, 0}, {0, 3, 50}, {0, 4, 2}, {0, 5, 9}, {3, 6, -3}, {0, 7, 5}, {0, 8, 4}};
        int[] before = new int[mends.length];
        for (int i = 0; i < mends.length; i++) {
            before[i] = x.mend(mends[i][0], mends[i][1], mends[i][2]);
        }
        x.deed(3, 0, 5);
        x.walk(0, 0);
        Due.is("count(4)", x.count(4), 9);
        for (int i = mends.length - 1; i >= 0; i--) {
            Due.is("of", x.of(mends[i][0], mends[i][1]), mends[i][2]);
            Due.is("undo", x.undo(), i);
            Due.is("of what was UNDONE", x.of(mends[i][0], mends[i][1]), before[i]);
        }
        Due.is("none more", x.undo(), -5);
        Due.is("DEEDS stay", x.count(2), 2);
        Due.is("NOW stays", x.led(4), 12);
        for (int i = 0; i < mends.length; i++) {
            Due.is("redo", x.redo(), mends.length - 1 - i);
            Due.is("of what was DONE AGAIN", x.of(mends[i][0], mends[i][1]), mends[i][2]);
        }
        Due.is("none more", x.redo(), -5);
    }

    private static void redo() {
        FameAhead x = Due.land(2, 3);
        x.mend(0, 0, 5);
        x.mend(0, 0, 6);
        x.mend(0, 0, 6);
        Due.is("the same number is no change", x.count(4), 2);
        x.undo();
        Due.is("mend to what it is", x.mend(0, 0, 5), 5);
        Due.is("that hinders nothing", x.redo(), 0);
        Due.is("it is so", x.of(0, 0), 6);
        x.undo();
        x.town(0);
        x.deed(0, 0, 1);
        Due.tell(x, "1");
        Due.is("nor does what is no change", x.redo(), 0);
        x.undo();
        x.mend(0, 7, 9);
        Due.is("another came behind", x.redo(), -5);
        Due.is("of", x.of(0, 0), 5);
        Due.is("undo that", x.undo(), 1);
        Due.is("ARREST", x.of(0, 7), 60);
        Due.is("undo the first", x.undo(), 0);
        Due.is("DEAF", x.of(0, 0), 3);
        Due.is("a wrong mend", x.mend(0, 0, 10), -2000000000);
        Due.is("redo behind it", x.redo(), 1);
    }

    private static void fortyAreKept() {
        FameAhead x = Due.land(8, 0);
        for (int i = 0; i < 45; i++) {
            Due.is("mend", x.mend(numberOf(i), whatOf(i), valueOf(i)), before(i));
            Due.is("count(4)", x.count(4), Math.min(i + 1, 40));
        }
        for (int i = 44; i >= 5; i--) {
            Due.is("undo", x.undo(), i - 5);
            Due.is("of what was UNDONE", x.of(numberOf(i), whatOf(i)), before(i));
        }
        Due.is("none more", x.undo(), -5);
        for (int i = 0; i < 5; i++) {
            Due.is("the oldest stay", x.of(numberOf(i), whatOf(i)), valueOf(i));
        }
        for (int i = 5; i < 45; i++) {
            Due.is("redo", x.redo(), 44 - i);
            Due.is("of what was DONE AGAIN", x.of(numberOf(i), whatOf(i)), valueOf(i));
        }
        Due.is("none more", x.redo(), -5);
    }

    /** DEAF of the eight TOWNS, then WORTH of the five MARKS, and so on. */
    private static int numberOf(int i) {
        return i % 13 < 8 ? i % 13 : i % 13 - 8;
    }

    private static int whatOf(int i) {
        return i % 13 < 8 ? 0 : 6;
    }

    private static int valueOf(int i) {
        return 3 + i / 13 + i % 3;
    }

    private static int before(int i) {
        int[] worth = {1, -2, 1, 1, -1};
        return i >= 13 ? valueOf(i - 13) : i < 8 ? 0 : worth[i - 8];
    }
}

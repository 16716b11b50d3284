import java.util.ArrayList;
import java.util.List;

/** All that can be asked of an object, in views of at most 256 calls each; some of them change it as they ask. */
final class Views {
    static final int COUNT = 8;
    /** How many numbers of() has by its what. */
    private static final int[] NUMBERS = {8, 12, 12, 10, 10, 10, 5, 1, 1, 10, 10, 4, 1};
    private static final long PROBE = 0x123456789ABCDEF0L;

    private Views() {
    }

    static List<Long> of(FameAhead x, int view) {
        List<Long> seen = new ArrayList<>();
        switch (view) {
            case 0: countsAndWays(x, seen); break;
            case 1: sayings(x, seen); break;
            case 2: shelves(x, 0, seen); break;
            case 3: shelves(x, 3, seen); break;
            case 4: acts(x, seen); break;
            case 5: tape(x, seen); break;
            case 6: changesBack(x, seen); break;
            default: changesAhead(x, seen); break;
        }
        return seen;
    }

    private static void countsAndWays(FameAhead x, List<Long> seen) {
        for (int what = 0; what < 7; what++) {
            seen.add((long) x.count(what));
        }
        journey(x, seen);
        numbers(x, 12, seen);
        for (int ab = 0; ab < 78; ab++) {
            if (ab / 10 < ab % 10 && ab % 10 < 8) {
                seen.add((long) x.way(ab, 0));
                seen.add((long) x.way(ab, 1));
            }
        }
    }

    private static void journey(FameAhead x, List<Long> seen) {
        for (int what = 0; what < 5; what++) {
            seen.add((long) x.led(what));
        }
        for (int one = 0; one < 4; one++) {
            seen.add((long) x.of(one, 11));
        }
    }

    private static void numbers(FameAhead x, int last, List<Long> seen) {
        for (int what = 0; what <= last; what++) {
            for (int number = 0; number < NUMBERS[what]; number++) {
                seen.add((long) x.of(number, what));
            }
        }
    }

    private static void sayings(FameAhead x, List<Long> seen) {
        for (int town = 0; town < 8; town++) {
            for (int deed = 0; deed < 10; deed++) {
                seen.add((long) x.heard(deed, town));
            }
            for (int one = 0; one < 4; one++) {
                seen.add((long) x.received(one, 1000 * town + 110, 0));
            }
        }
        volumes(x, seen);
    }

    private static void volumes(FameAhead x, List<Long> seen) {
        for (int town = 0; town < 8; town++) {
            for (int deed = 0; deed < 10; deed++) {
                seen.add((long) x.loud(deed, 1000 * town + 110));
            }
        }
    }

    private static void shelves(FameAhead x, int from, List<Long> seen) {
        for (int shelf = from; shelf < from + 3; shelf++) {
            for (int i = 0; i <= 60; i++) {
                seen.add(x.element(shelf, i));
            }
            for (int kind = 0; kind < 8; kind++) {
                seen.add((long) x.taken(shelf, kind));
            }
            seen.add((long) x.put(shelf, 0, PROBE));
            seen.add(x.element(shelf, 0));
        }
    }

    private static void acts(FameAhead x, List<Long> seen) {
        seen.add((long) x.count(6));
        for (int i = 0; i < 25; i++) {
            seen.add((long) x.trace(i));
        }
        for (int body = 0; body < 50; body++) {
            seen.add((long) x.act(body, 3, 1));
            seen.add((long) x.keep(0, body));
            seen.add((long) x.taken(0, 0));
        }
    }

    private static void tape(FameAhead x, List<Long> seen) {
        volumes(x, seen);
        seen.add((long) x.count(3));
        seen.add((long) x.law());
        seen.add((long) x.count(3));
        volumes(x, seen);
    }

    private static void changesBack(FameAhead x, List<Long> seen) {
        for (int i = 0; i < 41; i++) {
            seen.add((long) x.undo());
        }
        numbers(x, 8, seen);
        for (int i = 0; i < 41; i++) {
            seen.add((long) x.redo());
        }
        numbers(x, 8, seen);
    }

    private static void changesAhead(FameAhead x, List<Long> seen) {
        for (int i = 0; i < 41; i++) {
            seen.add((long) x.redo());
        }
        numbers(x, 8, seen);
        journey(x, seen);
        seen.add((long) x.back());
        journey(x, seen);
    }
}

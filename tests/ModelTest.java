import java.util.ArrayList;
import java.util.List;

/** Runs of calls drawn by a fixed seed, as long as the document lets an object be used, held against the Model. */
public final class ModelTest {
    /** An object is used for at most 512 calls; a step makes at most MARGIN of them. */
    private static final int RUNS = 2500, CALLS = 512, MARGIN = 160, MEND = 4;
    private static final int[] EXTREMES = {Integer.MIN_VALUE, Integer.MIN_VALUE + 1, -1000000, -1001, -1000, -101, -100,
        -11, -10, -3, -2, -1, 0, 1, 10, 11, 50, 60, 61, 99, 100, 255, 256, 999, 1000, 1001, 7999, 8000, 1000000,
        2147482999, Integer.MAX_VALUE - 5, Integer.MAX_VALUE - 1, Integer.MAX_VALUE};
    private static final String[] LAWS = {"w*5-a/6-d/2+(m=1)*t", "a<20?9*w-d;m=1?w*7-a/9;40-a/4", "(p+1)*w-d|a",
        "w*w-a*a%7", "t=2?0;99-a/9-d", "a%2&w>4?50;w*3", "-(-w*8)+!a*20-(d>9)", "70*(a%10=3)", "99", "0", "w*9",
        "!(m=1)*30+w;7", "p=2?a;d=0?80;60-w*t", "a>30&a<50?w*11;a<10?5"};
    private static final String LETTERS = "0123456789wadmtp()!-+*/%<=>&|?;wadm((!-x ";

    private static long z = 20261119;
    /** How many calls the object of this run has had. */
    private static int calls = 0;

    private static int draw(int n) {
        z = z * 6364136223846793005L + 1442695040888963407L;
        return (int) ((z >>> 33) % n);
    }

    /** Mostly 0 .. most, now and then what no number should be. */
    private static int upTo(int most) {
        int way = draw(24);
        if (way == 0) {
            return EXTREMES[draw(EXTREMES.length)];
        }
        return way == 1 ? most + 1 : draw(most + 1);
    }

    private static int town(Model m) {
        return upTo(Math.max(0, m.deaf.size() - 1));
    }

    private static int aDeed(Model m) {
        return upTo(Math.max(0, m.deeds.size() - 1));
    }

    private static int hour() {
        int way = draw(12);
        return way == 0 ? 999 : way == 1 ? upTo(999) : draw(160);
    }

    private static int th(Model m) {
        return draw(40) == 0 ? EXTREMES[draw(EXTREMES.length)] : town(m) * 1000 + hour();
    }

    private static int pm() {
        return draw(30) == 0 ? EXTREMES[draw(EXTREMES.length)] : draw(3) * 10 + (draw(3) == 0 ? draw(6) : 1);
    }

    private static int one() {
        return draw(8) == 0 ? upTo(3) : draw(3);
    }

    public static void main(String[] args) {
        for (int run = 0; run < RUNS; run++) {
            FameAhead x = new FameAhead();
            Model m = new Model();
            int wanted = draw(8) + 1;
            int late = draw(3);
            calls = 0;
            for (int step = 0; calls + MARGIN <= CALLS; step++) {
                if (step < wanted + 14 && step != late) {
                    found(x, m, step, wanted, run);
                } else {
                    // In each eighth run mostly mends, so that CHANGES are more than are kept.
                    step(x, m, run % 8 == 0 && draw(4) != 0 ? MEND : draw(60), run);
                }
            }
            Due.is("run " + run + " used its object for too many calls", calls > CALLS ? 1 : 0, 0);
        }
        Due.close();
    }

    private static void found(FameAhead x, Model m, int step, int wanted, int run) {
        if (step <= wanted) {
            int v = draw(10);
            same(run, "town", x.town(v), m.town(v), v);
        } else if (step % 3 != 0) {
            int ab = town(m) * 10 + town(m);
            int length = upTo(24);
            same(run, "road", x.road(ab, length), m.road(ab, length), ab, length);
        } else {
            step(x, m, 2, run);
        }
    }

    private static void same(int run, String call, long got, long want, long... with) {
        calls++;
        if (got != want) {
            Due.is("run " + run + ": " + call + java.util.Arrays.toString(with), got, want);
        }
    }

    private static void step(FameAhead x, Model m, int which, int run) {
        if (which < 18) {
            changing(x, m, which, run);
        } else if (which < 40) {
            thinking(x, m, which, run);
        } else {
            holding(x, m, which, run);
        }
    }

    private static void changing(FameAhead x, Model m, int which, int run) {
        int a = one();
        int b = draw(13) == 0 ? upTo(3) : draw(11);
        int c;
        switch (which) {
            case 0: a = upTo(9); same(run, "town", x.town(a), m.town(a), a); break;
            case 1: a = town(m) * 10 + town(m); b = upTo(24); same(run, "road", x.road(a, b), m.road(a, b), a, b); break;
            case 2: a = pm(); b = th(m); c = upTo(9); same(run, "deed", x.deed(a, b, c), m.deed(a, b, c), a, b, c); break;
            case 3: a = upTo(5); b = upTo(6); c = upTo(4); same(run, "deeds", x.deeds(a, b, c), m.deeds(a, b, c), a, b, c);
                break;
            case 4:
            case 5:
            case 6:
            case 7: mend(x, m, run); break;
            case 8: a = upTo(6); b = upTo(12); same(run, "of", x.of(a, b), m.of(a, b), a, b); break;
            case 9: law(x, m, run); break;
            case 10:
            case 11: b = upTo(Math.max(0, m.roads.size() - 1)); same(run, "walk", x.walk(a, b), m.walk(a, b), a, b); break;
            case 12: a = pm(); b = upTo(9); same(run, "does", x.does(a, b), m.does(a, b), a, b); break;
            case 13: same(run, "image", x.image(), m.image()); break;
            case 14: if (draw(3) == 0) { same(run, "back", x.back(), m.back()); } break;
            case 15:
            case 16: same(run, "undo", x.undo(), m.undo()); break;
            default: same(run, "redo", x.redo(), m.redo()); break;
        }
        if (draw(6) != 0) {
            return;
        }
        for (int what = -1; what <= 7; what++) {
            same(run, "led", x.led(what), m.led(what), what);
            same(run, "count", x.count(what), m.count(what), what);
        }
    }

    private static void mend(FameAhead x, Model m, int run) {
        int what = upTo(8);
        int[] most = {9, 24, 1, 160, 4, 9, 9, 99, 12};
        int[] numbers = {m.deaf.size(), m.roads.size(), m.roads.size(), m.deeds.size(), m.deeds.size(), m.deeds.size(), 5, 1, 1};
        int number = what >= 0 && what <= 8 ? upTo(Math.max(0, numbers[what] - 1)) : draw(3);
        int v = what >= 0 && what <= 8 ? upTo(most[what]) : draw(3);
        v = what == 6 && draw(2) == 0 ? -v : v;
        v = what == 2 && draw(2) == 0 ? 1 : v;
        same(run, "mend", x.mend(number, what, v), m.mend(number, what, v), number, what, v);
    }

    private static void law(FameAhead x, Model m, int run) {
        StringBuilder text = new StringBuilder();
        int way = draw(4);
        if (way == 0) {
            int n = draw(14);
            for (int i = 0; i < n; i++) {
                text.append(LETTERS.charAt(draw(LETTERS.length())));
            }
        } else {
            text.append(LAWS[draw(LAWS.length)]);
        }
        if (way == 1) {
            int at = draw(text.length());
            text.setCharAt(at, LETTERS.charAt(draw(LETTERS.length())));
        }
        if (draw(20) == 0) {
            while (text.length() < 130) {
                text.append(";w+-(a)");
            }
        }
        for (int i = 0; i < text.length(); i++) {
            same(run, "feed", x.feed(text.charAt(i)), m.feed(text.charAt(i)), text.charAt(i));
        }
        int bad = upTo(255);
        if (draw(10) == 0) {
            same(run, "feed", x.feed(bad), m.feed(bad), bad);
        }
        calls++;
        long got = x.law();
        long want = m.law();
        if (got != want) {
            Due.is("run " + run + ": law of " + text, got, want);
        }
    }

    private static void thinking(FameAhead x, Model m, int which, int run) {
        int a = one();
        int b = th(m);
        int c = upTo(3);
        int d;
        switch (which) {
            case 18: a = town(m) * 10 + town(m); b = upTo(1); same(run, "way", x.way(a, b), m.way(a, b), a, b); break;
            case 19: a = aDeed(m); b = town(m); same(run, "heard", x.heard(a, b), m.heard(a, b), a, b); break;
            case 20: a = aDeed(m); same(run, "loud", x.loud(a, b), m.loud(a, b), a, b); break;
            case 21: a = pm(); same(run, "said", x.said(a, b), m.said(a, b), a, b); break;
            case 22: same(run, "received", x.received(a, b, c), m.received(a, b, c), a, b, c); break;
            case 23: b = hour(); c = upTo(2); same(run, "atHour", x.atHour(a, b, c), m.atHour(a, b, c), a, b, c); break;
            case 24:
            case 25: c = upTo(1); same(run, "home", x.home(a, b, c), m.home(a, b, c), a, b, c); break;
            case 26:
            case 27:
                for (c = -1; c < 5; c++) {
                    if (draw(3) == 0) {
                        same(run, "route", x.route(a, b, c), m.route(a, b, c), a, b, c);
                    }
                }
                c = upTo(4);
                same(run, "route", x.route(a, b, c), m.route(a, b, c), a, b, c);
                break;
            case 28: a = pm(); c = th(m); d = 1 + upTo(40);
                same(run, "needs", x.needs(a, b, c, d), m.needs(a, b, c, d), a, b, c, d); break;
            case 29: a = pm(); b = town(m); c = th(m); d = 100 * upTo(9) + upTo(50);
                same(run, "latest", x.latest(a, b, c, d), m.latest(a, b, c, d), a, b, c, d); break;
            case 30:
            case 31: a = aDeed(m); b = town(m); c = upTo(1); same(run, "cut", x.cut(a, b, c), m.cut(a, b, c), a, b, c); break;
            case 32: b = hour(); c = upTo(1); same(run, "free", x.free(a, b, c), m.free(a, b, c), a, b, c); break;
            case 33: a = draw(4) * 10 + upTo(3); c = upTo(2); same(run, "alike", x.alike(a, b, c), m.alike(a, b, c), a, b, c);
                break;
            case 34: seen(x, m, a, b, run); break;
            case 35: seen(x, m, a, b, run); break;
            case 36: a = pm(); b = 100 * town(m) + upTo(50); c = upTo(1);
                same(run, "first", x.first(a, b, c), m.first(a, b, c), a, b, c); break;
            case 37: a = aDeed(m); b = draw(3) == 0 ? hour() : draw(4) - 3; same(run, "news", x.news(a, b), m.news(a, b), a, b);
                break;
            case 38: a = aDeed(m); b = town(m); c = upTo(1); same(run, "garbled", x.garbled(a, b, c), m.garbled(a, b, c), a, b, c);
                break;
            default: a = aDeed(m); b = town(m); c = upTo(1000); d = 10 * upTo(50) + draw(3);
                same(run, "drawn", x.drawn(a, b, c, d), m.drawn(a, b, c, d), a, b, c, d); break;
        }
    }

    /** Lays what is truly said, now and then a little off or cut short, and asks for it. */
    private static void seen(FameAhead x, Model m, int one, int th, int run) {
        int shelf = upTo(5);
        if (draw(5) != 0 && shelf >= 0 && shelf <= 5 && m.one(one) && m.th(th)) {
            int n = draw(7);
            calls += n + 1;
            x.row(shelf, 0, n);
            m.row(shelf, 0, n);
            for (int mark = 0; mark < n; mark++) {
                int said = mark < 5 ? m.said(one * 10 + mark, th) : 3;
                said = draw(8) == 0 ? 0 : draw(20) == 0 ? said + 1 : said;
                x.put(shelf, mark, said);
                m.put(shelf, mark, said);
            }
        }
        same(run, "judge", x.judge(shelf, one, th), m.judge(shelf, one, th), shelf, one, th);
        for (int what = 0; what < 3; what++) {
            same(run, "which", x.which(shelf, one, th, what), m.which(shelf, one, th, what), shelf, one, th, what);
        }
        int what = upTo(2);
        same(run, "which", x.which(shelf, one, th, what), m.which(shelf, one, th, what), shelf, one, th, what);
    }

    private static void holding(FameAhead x, Model m, int which, int run) {
        int a = upTo(5);
        int b = upTo(6);
        int c = upTo(60);
        long v = draw(4) == 0 ? z : draw(300) - 150;
        switch (which) {
            case 40:
            case 41: b = draw(9) == 0 ? upTo(9) : draw(8); same(run, "body", x.body(b), m.body(b), b); break;
            case 42:
            case 43:
            case 44: act(x, m, run); break;
            case 45: b = upTo(12) - 1; same(run, "keep", x.keep(a, b), m.keep(a, b), a, b); break;
            case 46: b = upTo(4); same(run, "row", x.row(a, b, c), m.row(a, b, c), a, b, c); break;
            case 47: rowOfDeeds(x, m, a, run); break;
            case 48:
            case 49:
            case 50: same(run, "put", x.put(a, b, v), m.put(a, b, v), a, b, v); break;
            case 51:
            case 52: same(run, "element", x.element(a, b), m.element(a, b), a, b); break;
            case 53:
            case 54:
            case 55: shift(x, m, a, b, run); break;
            case 56: b = upTo(7); same(run, "taken", x.taken(a, b), m.taken(a, b), a, b); break;
            case 57: b = upTo(8); same(run, "count", x.count(b), m.count(b), b); break;
            case 58: b = upTo(5); same(run, "led", x.led(b), m.led(b), b); break;
            default: b = upTo(30); same(run, "trace", x.trace(b), m.trace(b), b); break;
        }
    }

    private static void act(FameAhead x, Model m, int run) {
        int body = upTo(Math.max(0, m.bodies.size() - 1));
        int act = upTo(3);
        int value = draw(3) == 0 ? (int) z : draw(100);
        same(run, "act", x.act(body, act, value), m.act(body, act, value), body, act, value);
        for (int i = 0; i < m.trace.size() + 1; i++) {
            same(run, "trace", x.trace(i), m.trace(i), i);
        }
        same(run, "count", x.count(6), m.count(6), 6);
    }

    private static void rowOfDeeds(FameAhead x, Model m, int shelf, int run) {
        int n = draw(24);
        same(run, "row", x.row(shelf, 1, n), m.row(shelf, 1, n), shelf, 1, n);
        int from = draw(4);
        for (int i = 0; i + from < n; i++) {
            int kind = i % 5;
            int v = kind == 0 ? one() : kind == 1 ? town(m) : kind == 2 ? hour() : kind == 3 ? upTo(4) : 1 + draw(9);
            same(run, "put", x.put(shelf, i + from, v), m.put(shelf, i + from, v), shelf, i + from, v);
        }
        int fives = upTo(5);
        int start = draw(6) == 0 ? from - 5 : from;
        same(run, "deeds", x.deeds(shelf, start, fives), m.deeds(shelf, start, fives), shelf, start, fives);
    }

    private static void shift(FameAhead x, Model m, int shelf, int i, int run) {
        int other = draw(3) == 0 ? shelf : upTo(5);
        if (draw(2) == 0 && other >= 0 && other < 6 && shelf >= 0 && shelf < 6 && other != shelf) {
            int sort = draw(5);
            calls += 14;
            x.row(other, sort, 9);
            m.row(other, sort, 9);
            x.row(shelf, sort, 12);
            m.row(shelf, sort, 12);
            for (int k = 0; k < 12; k++) {
                x.put(shelf, k, z >> k);
                m.put(shelf, k, z >> k);
            }
        }
        int j = upTo(6);
        int n = upTo(8);
        same(run, "shift", x.shift(shelf, i, other, j, n), m.shift(shelf, i, other, j, n), shelf, i, other, j, n);
        List<Integer> both = new ArrayList<>(List.of(shelf, other));
        for (int which : both) {
            for (int k = 0; k < 13; k++) {
                same(run, "element", x.element(which, k), m.element(which, k), which, k);
            }
        }
    }
}

/** Promises 36 to 38: BODIES, ACTS, THE TRACE. */
public final class ActTest {
    // Plain Java classes as the document tells them: Java itself finds the bodies.
    static final StringBuilder RAN = new StringBuilder();

    static int ran(int body) {
        RAN.append(body).append(' ');
        return 0;
    }

    interface Goes {
        int n();

        default int goes(int x) {
            return ran(1) + x + n();
        }
    }

    interface Tells {
        int says(int x);

        int fades(int x);

        default int tells(int x) {
            ran(2);
            return says(x) - fades(1);
        }
    }

    static class Word implements Goes, Tells {
        int number;

        public int n() {
            return number;
        }

        public int says(int x) {
            ran(10);
            return goes(x) * 2;
        }

        public int fades(int x) {
            ran(11);
            return x ^ n();
        }
    }

    static class Carter extends Word {
        public int goes(int x) {
            ran(20);
            return super.goes(x) + 3;
        }
    }

    static class Feet extends Word {
        public int says(int x) {
            ran(30);
            return -super.says(x);
        }
    }

    static class Inn extends Feet {
        public int fades(int x) {
            ran(40);
            return super.fades(x) * 3;
        }

        public int says(int x) {
            ran(41);
            return super.says(x + 1);
        }
    }

    static class Twin extends Carter {
        public int fades(int x) {
            ran(50);
            return super.fades(x) - goes(2);
        }
    }

    static class Saint extends Inn {
        public int tells(int x) {
            ran(60);
            return super.tells(x) ^ 5;
        }
    }

    static class Letter extends Word {
        public int goes(int x) {
            ran(70);
            return super.goes(x) * 2;
        }
    }

    static class Nobody extends Twin {
        public int says(int x) {
            ran(80);
            return super.says(x) + fades(2);
        }

        public int tells(int x) {
            ran(81);
            return super.tells(x) - 1;
        }
    }

    public static void main(String[] args) {
        bodies();
        acts();
        written();
        refused();
        Due.close();
    }

    private static void bodies() {
        FameAhead x = new FameAhead();
        Due.is("body(-1)", x.body(-1), -1);
        Due.is("body(8)", x.body(8), -1);
        for (int i = 0; i < 50; i++) {
            Due.is("body", x.body(i % 8), i);
        }
        Due.is("a fifty-first", x.body(0), -3);
        Due.is("a fifty-first that is bad", x.body(8), -1);
        Due.is("count(5)", x.count(5), 50);
    }

    private static void acts() {
        Word[] words = {new Word(), new Carter(), new Feet(), new Inn(), new Twin(), new Saint(), new Letter(), new Nobody()};
        int[] xs = {0, 1, -1, 7, 1000000, Integer.MAX_VALUE, Integer.MIN_VALUE};
        for (int body = 0; body < 24; body++) {
            FameAhead x = new FameAhead();
            for (int i = 0; i <= body; i++) {
                x.body(i * 3 % 8);
            }
            Word word = words[body * 3 % 8];
            word.number = body;
            for (int act = 0; act < 4; act++) {
                int value = xs[(body + act) % xs.length];
                RAN.setLength(0);
                int due = act == 0 ? word.goes(value) : act == 1 ? word.says(value)
                    : act == 2 ? word.fades(value) : word.tells(value);
                Due.is("act(" + body + ", " + act + ", " + value + ")", x.act(body, act, value), due);
                traces(x, RAN.toString().split(" "));
            }
        }
    }

    private static void traces(FameAhead x, String[] bodies) {
        Due.is("count(6)", x.count(6), bodies.length);
        for (int i = 0; i < bodies.length; i++) {
            Due.is("trace(" + i + ")", x.trace(i), Integer.parseInt(bodies[i]));
        }
        Due.is("trace behind the last", x.trace(bodies.length), -1);
    }

    /** Worked out by hand, so that the classes above are watched, too. */
    private static void written() {
        FameAhead x = new FameAhead();
        x.body(0);
        x.body(5);
        Due.is("SAINT tells 4", x.act(1, 3, 4), (-12 - 0) ^ 5);
        traces(x, new String[] {"60", "2", "41", "30", "10", "1", "40", "11"});
        x.body(7);
        Due.is("NOBODY says 1", x.act(2, 1, 1), (1 + 2 + 3) * 2 + ((2 ^ 2) - (2 + 2 + 3)));
        traces(x, new String[] {"80", "10", "20", "1", "50", "11", "20", "1"});
    }

    private static void refused() {
        FameAhead x = new FameAhead();
        Due.is("no TRACE yet", x.trace(0), -1);
        Due.is("trace(-1)", x.trace(-1), -1);
        Due.is("no such WORD", x.act(0, 0, 5), 0);
        x.body(0);
        int[][] wrong = {{1, 0}, {-1, 0}, {0, 4}, {0, -1}};
        for (int[] call : wrong) {
            Due.is("act", x.act(0, 0, 5), 5);
            Due.is("its TRACE", x.trace(0), 1);
            Due.is("no such WORD or ACT", x.act(call[0], call[1], 5), 0);
            Due.is("no TRACE then", x.trace(0), -1);
            Due.is("none ran", x.count(6), 0);
        }
    }
}

/** Promises 8 and 9: THE TAPE and THE LAW, and how LOUD a DEED is by it. */
public final class LawTest {
    public static void main(String[] args) {
        tape();
        faults();
        depth();
        values();
        lines();
        names();
        aFaultKeepsTheLaw();
        Due.close();
    }

    private static void tape() {
        FameAhead x = new FameAhead();
        Due.is("feed(-1)", x.feed(-1), -1);
        Due.is("feed(256)", x.feed(256), -1);
        Due.is("feed(0)", x.feed(0), 1);
        Due.is("feed(255)", x.feed(255), 2);
        Due.is("count(3)", x.count(3), 2);
        Due.is("law of bytes that no TEXT has", x.law(), -100);
        Due.is("THE TAPE is empty", x.count(3), 0);
        Due.is("law without a TAPE", x.law(), -100);
        for (int i = 0; i < 120; i++) {
            Due.is("feed", x.feed(i % 2 == 0 ? '1' : '+'), i + 1);
        }
        Due.is("a byte too many", x.feed('1'), -3);
        Due.is("a byte too many that is bad", x.feed(256), -1);
        Due.is("ends too early at 120", x.law(), -220);
        for (int i = 0; i < 119; i++) {
            x.feed(i % 2 == 0 ? '1' : '+');
        }
        Due.is("119 bytes", x.law(), 1);
        x.town(0);
        x.deed(0, 0, 1);
        Due.is("sixty times 1", x.loud(0, 0), 60);
    }

    private static void faults() {
        String[] texts = {"w", "1+", "12345", "1234", "(w", "(w)", "(w))", "w w", "1<2<3", "1=2", "1=2>3", "(1<2)<3",
            "1?2?3", "1?2;", "1?2;3", ";", "w;;w", "1?;2", "(1?2)", "x", "!", "-", "!w", "--1", "1--1", "1-!1", "1!1",
            "w|", "w&|w", "w|a&d", "w*/a", "w%2", "A", "()", "1(2)", "w1", "1w", "+1", "1;2|3?4;", "(1;2)", "0?0"};
        int[] answers = {1, -102, -104, 1, -102, 1, -103, -101, -103, 1, -103, 1,
            -103, -104, 1, -100, -102, -102, -102, -100, -101, -101, 1, 1, 1, 1, -101,
            -102, -102, 1, -102, 1, -100, -101, -101, -101, -101, -100, -108, -102, 1};
        for (int i = 0; i < texts.length; i++) {
            FameAhead x = new FameAhead();
            Due.is("law of " + texts[i], Due.tell(x, texts[i]), answers[i]);
            Due.is("THE TAPE behind " + texts[i], x.count(3), 0);
        }
    }

    private static void depth() {
        String[] texts = {"((((((1))))))", "(((((((1)))))))", "------1", "-------1", "!-(!-(1))", "!-(!-(!1))",
            "-1-1-1-1-1-1-1-1", "(1)+(1)+(1)+(1)+(1)+(1)+(1)", "((((((-1))))))", "!!!!!!w*!!!!!!w", "1?((((((1))))));------1",
            "1?(((((((1)))))))"};
        int[] answers = {1, -106, 1, -106, 1, -106, 1, 1, -106, 1, 1, -108};
        for (int i = 0; i < texts.length; i++) {
            Due.is("law of " + texts[i], Due.tell(new FameAhead(), texts[i]), answers[i]);
        }
    }

    private static void values() {
        String[] texts = {"7", "98+1", "99+1", "0-1", "-1", "2*3+4", "2+3*4", "20-3-4", "50/4/2", "50-7/2", "17%5*2",
            "7/0", "7%0", "-7/2+10", "-7%4+10", "9999*9999*9999*9999", "3<4", "4<3", "3=3", "3=4", "4>3", "3>4", "3<3", "3>3",
            "5|0", "0|0", "5&6", "5&0", "0&5", "1|0&0", "(1|0)&0", "!0", "!7", "!!7", "1+2<4", "-3+5", "(2+3)*4",
            "1|9999", "3&3+1", "w=5", "10*!0+5", "0-9999*9999*99/9999", "0000", "0012"};
        int[] due = {7, 99, 99, 0, 0, 10, 14, 13, 6, 47, 4,
            0, 0, 7, 7, -1, 1, 0, 1, 0, 1, 0, 0, 0,
            1, 0, 1, 0, 0, 1, 0, 1, 0, 1, 1, 2, 20,
            1, 1, 1, 15, -1, 0, 12};
        int wrapped = 9999 * 9999 * 9999 * 9999;
        due[15] = Math.max(0, Math.min(99, wrapped));
        due[41] = Math.max(0, Math.min(99, 0 - 9999 * 9999 * 99 / 9999));
        for (int i = 0; i < texts.length; i++) {
            FameAhead x = Due.land(1, 0);
            x.deed(0, 0, 5);
            Due.is("law of " + texts[i], Due.tell(x, texts[i]), 1);
            Due.is("loud by " + texts[i], x.loud(0, 0), due[i]);
        }
    }

    private static void lines() {
        String[] texts = {"0?5", "1?5", "0?5;6", "1?5;6", "0?5;0?6;7", "0?5;a?6;0?8", "5;6", "0;6", "w>4?11;w>2?22;33",
            "-1?44;3", "2-2?44;3"};
        int[] due = {0, 5, 6, 5, 7, 0, 5, 0, 11, 44, 3};
        for (int i = 0; i < texts.length; i++) {
            FameAhead x = Due.land(1, 0);
            x.deed(0, 0, 5);
            Due.is("law of " + texts[i], Due.tell(x, texts[i]), 1);
            Due.is("loud by " + texts[i], x.loud(0, 0), due[i]);
        }
    }

    private static void names() {
        FameAhead x = new FameAhead();
        x.town(0);
        x.town(0);
        x.town(3);
        x.road(12, 9);
        x.deed(34, 1010, 7);
        char[] letters = {'w', 'a', 'd', 'm', 't', 'p'};
        int[] due = {7, 12, 8, 4, 2, 3};
        for (int i = 0; i < letters.length; i++) {
            Due.tell(x, String.valueOf(letters[i]));
            Due.is("loud by " + letters[i], x.loud(0, 2030), due[i]);
        }
        Due.tell(x, "50");
        Due.is("ahead of being HEARD", x.loud(0, 2017), 0);
        Due.is("at being HEARD", x.loud(0, 2018), 50);
    }

    private static void aFaultKeepsTheLaw() {
        FameAhead x = Due.land(1, 0);
        x.deed(0, 0, 5);
        Due.is("without a text", x.loud(0, 0), 20);
        Due.is("a FAULT", Due.tell(x, "7+"), -102);
        Due.is("still without a text", x.loud(0, 0), 20);
        Due.tell(x, "7");
        Due.is("another FAULT", Due.tell(x, "9+;"), -102);
        Due.is("still by the text", x.loud(0, 0), 7);
        Due.tell(x, "8");
        Due.is("by the later text", x.loud(0, 0), 8);
    }
}

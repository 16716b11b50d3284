/** All short TEXTS, and long drawn ones, with the FAULT of each as a reading byte by byte tells it. */
public final class TextsTest {
    /** A sign of each sort, and one of none. */
    private static final String SIGNS = "7a()!-+*<&|?;x";
    private static final int LONGEST = 5, DRAWN = 6000, CALLS = 512;

    private static FameAhead x = new FameAhead();
    private static int calls = 0;
    private static long z = 12;

    public static void main(String[] args) {
        allFrom("");
        for (int i = 0; i < DRAWN; i++) {
            hold(drawn());
        }
        Due.close();
    }

    private static void allFrom(String head) {
        hold(head);
        for (int i = 0; head.length() < LONGEST && i < SIGNS.length(); i++) {
            allFrom(head + SIGNS.charAt(i));
        }
    }

    /** Mostly goes on as a TEXT may, so that faults come late. */
    private static String drawn() {
        String signs = "0123456789wadmtp((((((!!!---)))))+*/%<=>&|?;x";
        StringBuilder text = new StringBuilder();
        int length = draw(121);
        int tries = 0;
        while (text.length() < length && tries < 2000) {
            tries++;
            text.append(signs.charAt(draw(signs.length())));
            boolean goesOn = faultOf(text.toString()) == text.length() || faultOf(text.toString()) < 0;
            if (!goesOn && draw(100) != 0) {
                text.setLength(text.length() - 1);
            }
        }
        return text.toString();
    }

    private static int draw(int n) {
        z = z * 6364136223846793005L + 1442695040888963407L;
        return (int) ((z >>> 33) % n);
    }

    private static void hold(String text) {
        if (calls + text.length() + 1 > CALLS) {
            x = new FameAhead();
            calls = 0;
        }
        calls += text.length() + 1;
        int fault = faultOf(text);
        Due.is("law of " + text, Due.tell(x, text), fault < 0 ? 1 : -100 - fault);
    }

    /** The FAULT; -1: none. It knows no parts of a TEXT, only what may come behind what. */
    private static int faultOf(String text) {
        StringBuilder open = new StringBuilder();
        boolean[] compared = new boolean[8];
        int depth = 0;
        int digits = 0;
        boolean asked = false;
        boolean wanted = true;
        for (int i = 0; i < text.length(); i++) {
            char c = text.charAt(i);
            boolean isDigit = c >= '0' && c <= '9';
            if (wanted && (isDigit || "wadmtp".indexOf(c) >= 0)) {
                wanted = false;
                digits = isDigit ? 1 : 4;
                closeSigns(open);
            } else if (wanted && "(!-".indexOf(c) >= 0 && open.length() < 6) {
                open.append(c);
                depth += c == '(' ? 1 : 0;
                compared[depth] = c != '(' && compared[depth];
            } else if (!wanted && isDigit && digits < 4) {
                digits++;
            } else if (!wanted && c == ')' && depth > 0) {
                depth--;
                digits = 4;
                open.setLength(open.length() - 1);
                closeSigns(open);
            } else if (!wanted && mayJoin(c, depth, compared[depth], asked)) {
                wanted = true;
                compared[depth] = "<=>".indexOf(c) >= 0 || ("+-*/%".indexOf(c) >= 0 && compared[depth]);
                asked = c == '?' || (c != ';' && asked);
            } else {
                return i;
            }
        }
        return wanted || depth > 0 ? text.length() : -1;
    }

    private static boolean mayJoin(char c, int depth, boolean compared, boolean asked) {
        return "+-*/%&|".indexOf(c) >= 0 || ("<=>".indexOf(c) >= 0 && !compared)
            || (depth == 0 && (c == ';' || (c == '?' && !asked)));
    }

    /** Behind an O no ! and - ahead of it is open any more. */
    private static void closeSigns(StringBuilder open) {
        while (open.length() > 0 && open.charAt(open.length() - 1) != '(') {
            open.setLength(open.length() - 1);
        }
    }
}

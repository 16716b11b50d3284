import java.math.BigInteger;
import java.util.ArrayList;
import java.util.List;

/**
 * The document once more, told as slowly and as plainly as may be: every WAY by going all of them, every set by
 * trying all of them, THE LAW by cutting up its text. ModelTest holds the class against it.
 */
final class Model {
    static final int BAD = -1, NOT = -2, FULL = -3, STATE = -5, VOID = -2000000000;

    record Road(int a, int b, int hours, boolean carted) {
    }

    record Deed(int who, int town, int hour, int mark, int weight) {
        Deed of(int one) {
            return new Deed(one, town, hour, mark, weight);
        }
    }

    record Change(int number, int what, int from, int to) {
    }

    final List<Integer> deaf = new ArrayList<>();
    final List<Road> roads = new ArrayList<>();
    final List<Deed> deeds = new ArrayList<>();
    final int[] worth = {1, -2, 1, 1, -1};
    int arrest = 60;
    int garble = 1;
    String tape = "";
    String law = null;
    final List<Change> done = new ArrayList<>();
    final List<Change> undone = new ArrayList<>();
    int[] place = new int[4];
    int[] led = new int[5];
    int[] placeImage = null;
    int[] ledImage = null;
    final List<Integer> bodies = new ArrayList<>();
    final List<Integer> trace = new ArrayList<>();
    /** null, an Integer (a WORD's number), or a long[] whose first element is its sort. */
    final Object[] shelves = new Object[6];

    // ---- what is as said

    boolean one(int one) {
        return 0 <= one && one <= 3;
    }

    boolean pm(int pm) {
        return pm >= 0 && one(pm / 10) && pm % 10 <= 4;
    }

    boolean isTown(int town) {
        return 0 <= town && town < deaf.size();
    }

    boolean th(int th) {
        return th >= 0 && isTown(th / 1000);
    }

    boolean isDeed(int deed) {
        return 0 <= deed && deed < deeds.size();
    }

    static boolean in(int v, int least, int most) {
        return least <= v && v <= most;
    }

    // ---- ways: all of them, each TOWN once

    /** hours * 100 + ROADS of the quickest, then shortest; NOT. */
    int quickest(int from, int to, boolean carters, List<Road> by) {
        return quickest(from, to, carters, by, 1 << from);
    }

    private int quickest(int from, int to, boolean carters, List<Road> by, int been) {
        if (from == to) {
            return 0;
        }
        int best = NOT;
        for (Road road : by) {
            int next = road.a == from ? road.b : road.b == from ? road.a : -1;
            if (next < 0 || (been >> next & 1) == 1 || (carters && !road.carted)) {
                continue;
            }
            int rest = quickest(next, to, carters, by, been | 1 << next);
            if (rest < 0) {
                continue;
            }
            int hours = carters ? road.hours / 2 + road.hours % 2 : road.hours;
            int all = rest + hours * 100 + 1;
            if (best == NOT || all < best) {
                best = all;
            }
        }
        return best;
    }

    private final int[][] known = new int[2][64];

    private int way(int from, int to, boolean carters) {
        int[] ways = known[carters ? 1 : 0];
        if (ways[from * 8 + to] == 0) {
            ways[from * 8 + to] = quickest(from, to, carters, roads) + 10;
        }
        return ways[from * 8 + to] - 10;
    }

    private void forgetWays() {
        known[0] = new int[64];
        known[1] = new int[64];
    }

    // ---- THE LAW

    static boolean isText(String text) {
        String[] lines = parts(text, ";");
        for (String line : lines) {
            String[] halves = parts(line, "?");
            if (halves.length > 2) {
                return false;
            }
            for (String half : halves) {
                if (!is(half, 0, 0)) {
                    return false;
                }
            }
        }
        return true;
    }

    private static final String[] SIGNS = {"|", "&", "<=>", "+-", "*/%"};

    private static boolean is(String text, int level, int open) {
        if (level == 5) {
            return isO(text, open);
        }
        String[] parts = parts(text, SIGNS[level]);
        if (level == 2 && parts.length > 2) {
            return false;
        }
        for (String part : parts) {
            if (!is(part, level + 1, open)) {
                return false;
            }
        }
        return true;
    }

    private static boolean isO(String text, int open) {
        if (text.matches("[0-9]{1,4}|[wadmtp]")) {
            return true;
        }
        if (open == 6 || text.isEmpty()) {
            return false;
        }
        if (text.charAt(0) == '!' || text.charAt(0) == '-') {
            return isO(text.substring(1), open + 1);
        }
        return text.charAt(0) == '(' && text.length() > 1 && text.endsWith(")")
            && is(text.substring(1, text.length() - 1), 0, open + 1);
    }

    /** Cut at the signs outside of all ( ); a - ahead of an O is no such sign. */
    private static String[] parts(String text, String signs) {
        List<String> parts = new ArrayList<>();
        int open = 0;
        int from = 0;
        for (int i = 0; i < text.length(); i++) {
            char c = text.charAt(i);
            open += c == '(' ? 1 : c == ')' ? -1 : 0;
            boolean behindO = i > 0 && "0123456789wadmtp)".indexOf(text.charAt(i - 1)) >= 0;
            if (open == 0 && signs.indexOf(c) >= 0 && (c != '-' || behindO)) {
                parts.add(text.substring(from, i));
                from = i + 1;
            }
        }
        parts.add(text.substring(from));
        return parts.toArray(new String[0]);
    }

    /** Whether some TEXT begins so: one does, if one ends with an O and some ) or with some ) alone. */
    static boolean goesOn(String head) {
        String tail = "";
        for (int i = 0; i <= 6; i++) {
            if (isText(head + tail) || isText(head + "1" + tail)) {
                return true;
            }
            tail += ")";
        }
        return false;
    }

    static int fault(String text) {
        for (int i = 0; i < text.length(); i++) {
            if (!goesOn(text.substring(0, i + 1))) {
                return i;
            }
        }
        return isText(text) ? -1 : text.length();
    }

    private int value(String text, int[] names) {
        for (String line : parts(text, ";")) {
            String[] halves = parts(line, "?");
            if (halves.length == 1) {
                return value(halves[0], 0, names);
            }
            if (value(halves[0], 0, names) != 0) {
                return value(halves[1], 0, names);
            }
        }
        return 0;
    }

    private int value(String text, int level, int[] names) {
        if (level == 5) {
            return valueOfO(text, names);
        }
        String[] parts = parts(text, SIGNS[level]);
        int at = parts[0].length();
        int value = value(parts[0], level + 1, names);
        for (int i = 1; i < parts.length; i++) {
            int right = value(parts[i], level + 1, names);
            char sign = text.charAt(at);
            at += 1 + parts[i].length();
            value = switch (sign) {
                case '|' -> value != 0 || right != 0 ? 1 : 0;
                case '&' -> value != 0 && right != 0 ? 1 : 0;
                case '<' -> value < right ? 1 : 0;
                case '=' -> value == right ? 1 : 0;
                case '>' -> value > right ? 1 : 0;
                case '+' -> value + right;
                case '-' -> value - right;
                case '*' -> value * right;
                case '/' -> right == 0 ? 0 : value / right;
                default -> right == 0 ? 0 : value % right;
            };
        }
        return value;
    }

    private int valueOfO(String text, int[] names) {
        char c = text.charAt(0);
        if (c == '!') {
            return valueOfO(text.substring(1), names) == 0 ? 1 : 0;
        }
        if (c == '-') {
            return -valueOfO(text.substring(1), names);
        }
        if (c == '(') {
            return value(text.substring(1, text.length() - 1), 0, names);
        }
        int name = "wadmtp".indexOf(c);
        return name >= 0 ? names[name] : Integer.parseInt(text);
    }

    // ---- what is said

    int heardAt(Deed deed, int town) {
        int way = way(deed.town, town, true);
        return way < 0 ? NOT : deed.hour + way / 100 + deaf.get(town);
    }

    int loudness(Deed deed, int town, int hour) {
        int heard = heardAt(deed, town);
        if (heard == NOT || heard > hour) {
            return 0;
        }
        int a = hour - heard;
        int d = heard - deed.hour;
        if (law == null) {
            return Math.max(0, 4 * deed.weight - a / 8 - d / 4);
        }
        int value = value(law, new int[] {deed.weight, a, d, deed.mark, town, deed.who});
        return Math.max(0, Math.min(99, value));
    }

    int saidOf(List<Deed> of, int one, int mark, int town, int hour) {
        int most = 0;
        for (Deed deed : of) {
            if (deed.who == one && deed.mark == mark) {
                most = Math.max(most, loudness(deed, town, hour));
            }
        }
        return most;
    }

    int reception(List<Deed> of, int one, int town, int hour) {
        int sum = 0;
        for (int mark = 0; mark < 5; mark++) {
            sum += saidOf(of, one, mark, town, hour) * worth[mark];
        }
        return sum;
    }

    boolean arrested(List<Deed> of, int one, int town, int hour) {
        int said = saidOf(of, one, 1, town, hour);
        return said > 0 && said >= arrest;
    }

    int marksSaid(int one, int town, int hour) {
        int n = 0;
        for (int mark = 0; mark < 5; mark++) {
            n += saidOf(deeds, one, mark, town, hour) > 0 ? 1 : 0;
        }
        return n;
    }

    // ---- the calls

    int town(int v) {
        if (!in(v, 0, 9)) {
            return BAD;
        }
        if (deaf.size() == 8) {
            return FULL;
        }
        deaf.add(v);
        forgetWays();
        return deaf.size() - 1;
    }

    int road(int ab, int length) {
        if (ab < 0 || !isTown(ab / 10) || !isTown(ab % 10) || ab / 10 == ab % 10 || !in(length, 1, 24)) {
            return BAD;
        }
        if (roads.size() == 12) {
            return FULL;
        }
        roads.add(new Road(ab / 10, ab % 10, length, true));
        forgetWays();
        return roads.size() - 1;
    }

    int deed(int pm, int th, int weight) {
        if (!pm(pm) || !th(th) || !in(weight, 1, 9)) {
            return BAD;
        }
        if (deeds.size() == 10) {
            return FULL;
        }
        deeds.add(new Deed(pm / 10, th / 1000, th % 1000, pm % 10, weight));
        return deeds.size() - 1;
    }

    int deeds(int shelf, int i, int n) {
        if (!in(shelf, 0, 5) || !in(n, 1, 10)) {
            return BAD;
        }
        if (shelves[shelf] == null) {
            return 0;
        }
        if (!(shelves[shelf] instanceof long[] row) || row[0] != 1) {
            return -12;
        }
        int came = 0;
        for (long at = i + 1L; at > 0 && came < n && at + 4 < row.length; at += 5) {
            int k = (int) at;
            if (row[k] < 0 || row[k] > 3 || row[k + 1] < 0 || row[k + 1] >= deaf.size() || row[k + 2] < 0
                || row[k + 2] > 999 || row[k + 3] < 0 || row[k + 3] > 4 || row[k + 4] < 1 || row[k + 4] > 9) {
                break;
            }
            int pm = (int) (row[k] * 10 + row[k + 3]);
            if (deed(pm, (int) (row[k + 1] * 1000 + row[k + 2]), (int) row[k + 4]) < 0) {
                break;
            }
            came++;
        }
        return came;
    }

    int mend(int number, int what, int v) {
        int[][] bounds = {{0, 9}, {1, 24}, {0, 1}, {0, 999}, {0, 4}, {1, 9}, {-9, 9}, {0, 99}, {0, 12}};
        int before = of(number, what);
        if (!in(what, 0, 8) || before == VOID || !in(v, bounds[what][0], bounds[what][1])) {
            return VOID;
        }
        if (before != v) {
            done.add(new Change(number, what, before, v));
            undone.clear();
            if (done.size() > 40) {
                done.remove(0);
            }
            set(number, what, v);
        }
        return before;
    }

    private void set(int n, int what, int v) {
        forgetWays();
        if (what == 0) {
            deaf.set(n, v);
        } else if (what <= 2) {
            Road r = roads.get(n);
            roads.set(n, new Road(r.a, r.b, what == 1 ? v : r.hours, what == 2 ? v == 1 : r.carted));
        } else if (what <= 5) {
            Deed d = deeds.get(n);
            deeds.set(n, new Deed(d.who, d.town, what == 3 ? v : d.hour, what == 4 ? v : d.mark,
                what == 5 ? v : d.weight));
        } else if (what == 6) {
            worth[n] = v;
        } else if (what == 7) {
            arrest = v;
        } else {
            garble = v;
        }
    }

    int of(int n, int what) {
        boolean isRoad = 0 <= n && n < roads.size();
        return switch (what) {
            case 0 -> isTown(n) ? deaf.get(n) : VOID;
            case 1 -> isRoad ? roads.get(n).hours : VOID;
            case 2 -> isRoad ? (roads.get(n).carted ? 1 : 0) : VOID;
            case 3 -> isDeed(n) ? deeds.get(n).hour : VOID;
            case 4 -> isDeed(n) ? deeds.get(n).mark : VOID;
            case 5 -> isDeed(n) ? deeds.get(n).weight : VOID;
            case 6 -> in(n, 0, 4) ? worth[n] : VOID;
            case 7 -> n == 0 ? arrest : VOID;
            case 8 -> n == 0 ? garble : VOID;
            case 9 -> isDeed(n) ? deeds.get(n).who : VOID;
            case 10 -> isDeed(n) ? deeds.get(n).town : VOID;
            case 11 -> one(n) ? place[n] : VOID;
            case 12 -> n == 0 ? led[4] : VOID;
            default -> VOID;
        };
    }

    int feed(int letter) {
        if (!in(letter, 0, 255)) {
            return BAD;
        }
        if (tape.length() == 120) {
            return FULL;
        }
        tape += (char) letter;
        return tape.length();
    }

    int law() {
        String text = tape;
        tape = "";
        int fault = fault(text);
        if (fault >= 0) {
            return -100 - fault;
        }
        law = text;
        return 1;
    }

    int way(int ab, int what) {
        if (ab < 0 || !isTown(ab / 10) || !isTown(ab % 10) || !in(what, 0, 1)) {
            return BAD;
        }
        int way = way(ab / 10, ab % 10, what == 1);
        return way < 0 ? NOT : way / 100;
    }

    int heard(int deed, int town) {
        return !isDeed(deed) || !isTown(town) ? BAD : heardAt(deeds.get(deed), town);
    }

    int loud(int deed, int th) {
        return !isDeed(deed) || !th(th) ? BAD : loudness(deeds.get(deed), th / 1000, th % 1000);
    }

    int said(int pm, int th) {
        return !pm(pm) || !th(th) ? BAD : saidOf(deeds, pm / 10, pm % 10, th / 1000, th % 1000);
    }

    int received(int one, int th, int what) {
        if (!one(one) || !th(th) || !in(what, 0, 3)) {
            return VOID;
        }
        int town = th / 1000;
        int hour = th % 1000;
        if (what == 0) {
            return reception(deeds, one, town, hour);
        }
        if (what == 1) {
            return arrested(deeds, one, town, hour) ? 1 : 0;
        }
        if (what == 2) {
            return marksSaid(one, town, hour);
        }
        int best = NOT;
        for (int mark = 4; mark >= 0; mark--) {
            int said = saidOf(deeds, one, mark, town, hour);
            if (said > 0 && (best == NOT || said >= saidOf(deeds, one, best, town, hour))) {
                best = mark;
            }
        }
        return best;
    }

    int atHour(int one, int hour, int what) {
        if (!one(one) || !in(hour, 0, 999) || !in(what, 0, 2)) {
            return BAD;
        }
        int bits = 0;
        int best = NOT;
        for (int town = deaf.size() - 1; town >= 0; town--) {
            boolean is = what == 0 ? marksSaid(one, town, hour) == 0 : arrested(deeds, one, town, hour);
            bits |= is ? 1 << town : 0;
            if (best == NOT || reception(deeds, one, town, hour) >= reception(deeds, one, best, hour)) {
                best = town;
            }
        }
        return what == 2 ? best : bits;
    }

    int home(int one, int th, int what) {
        if (!one(one) || !th(th) || !in(what, 0, 1)) {
            return BAD;
        }
        for (int hour = th % 1000; hour <= 999; hour++) {
            for (int town = 0; town < deaf.size(); town++) {
                int way = way(th / 1000, town, false);
                if (way >= 0 && th % 1000 + way / 100 == hour && marksSaid(one, town, hour) == 0) {
                    return what == 0 ? hour : town;
                }
            }
        }
        return NOT;
    }

    int route(int one, int th, int k) {
        if (!one(one) || !th(th) || k < -1) {
            return VOID;
        }
        List<Integer> best = List.of();
        int sum = 0;
        for (int n = 1; n <= 4; n++) {
            List<List<Integer>> ways = new ArrayList<>();
            List<Integer> sums = new ArrayList<>();
            follow(one, th / 1000, th % 1000, n, 0, new ArrayList<>(), ways, sums);
            List<Integer> bestOfN = null;
            int sumOfN = 0;
            for (int i = 0; i < ways.size(); i++) {
                if (bestOfN == null || sums.get(i) > sumOfN
                    || (sums.get(i) == sumOfN && ways.get(i).toString().compareTo(bestOfN.toString()) < 0)) {
                    bestOfN = ways.get(i);
                    sumOfN = sums.get(i);
                }
            }
            if (bestOfN != null && sumOfN > sum) {
                best = bestOfN;
                sum = sumOfN;
            }
        }
        return k == -1 ? sum : k < best.size() ? best.get(k) : NOT;
    }

    private void follow(int one, int town, int hour, int n, int sum, List<Integer> been, List<List<Integer>> ways,
        List<Integer> sums) {
        if (n == 0) {
            ways.add(been);
            sums.add(sum);
            return;
        }
        for (Road road : roads) {
            int next = road.a == town ? road.b : road.b == town ? road.a : -1;
            int then = hour + road.hours;
            if (next >= 0 && then <= 999 && !arrested(deeds, one, next, then)) {
                List<Integer> on = new ArrayList<>(been);
                on.add(next);
                follow(one, next, then, n - 1, sum + reception(deeds, one, next, then), on, ways, sums);
            }
        }
    }

    private int saidWith(Deed deed, int to) {
        List<Deed> more = new ArrayList<>(deeds);
        more.add(deed);
        return saidOf(more, deed.who, deed.mark, to / 1000, to % 1000);
    }

    int needs(int pm, int th, int to, int x) {
        if (!pm(pm) || !th(th) || !th(to) || !in(x, 1, 99)) {
            return BAD;
        }
        for (int weight = 1; weight <= 9; weight++) {
            if (saidWith(new Deed(pm / 10, th / 1000, th % 1000, pm % 10, weight), to) >= x) {
                return weight;
            }
        }
        return NOT;
    }

    int latest(int pm, int town, int to, int wx) {
        if (!pm(pm) || !isTown(town) || !th(to) || wx < 0 || !in(wx / 100, 1, 9) || wx % 100 == 0) {
            return BAD;
        }
        for (int hour = 999; hour >= 0; hour--) {
            if (saidWith(new Deed(pm / 10, town, hour, pm % 10, wx / 100), to) >= wx % 100) {
                return hour;
            }
        }
        return NOT;
    }

    int cut(int deed, int town, int what) {
        if (!isDeed(deed) || !isTown(town) || !in(what, 0, 1)) {
            return BAD;
        }
        for (int n = 0; n <= 3; n++) {
            for (int set = 0; set < 1 << roads.size(); set++) {
                if (Integer.bitCount(set) != n) {
                    continue;
                }
                List<Road> left = new ArrayList<>();
                for (int i = 0; i < roads.size(); i++) {
                    if ((set >> i & 1) == 0) {
                        left.add(roads.get(i));
                    }
                }
                if (quickest(deeds.get(deed).town, town, true, left) < 0) {
                    return what == 0 ? n : set;
                }
            }
        }
        return NOT;
    }

    int free(int one, int hour, int what) {
        if (!one(one) || !in(hour, 0, 999) || !in(what, 0, 1)) {
            return BAD;
        }
        for (int n = 0; n <= deeds.size(); n++) {
            for (int set = 0; set < 1 << deeds.size(); set++) {
                List<Deed> left = new ArrayList<>();
                boolean own = true;
                for (int i = 0; i < deeds.size(); i++) {
                    if ((set >> i & 1) == 0) {
                        left.add(deeds.get(i));
                    } else {
                        own &= deeds.get(i).who == one;
                    }
                }
                boolean free = Integer.bitCount(set) == n && own;
                for (int town = 0; free && town < deaf.size(); town++) {
                    free = !arrested(left, one, town, hour);
                }
                if (free) {
                    return what == 0 ? n : set;
                }
            }
        }
        throw new IllegalStateException();
    }

    int alike(int pq, int th, int what) {
        if (pq < 0 || !one(pq / 10) || !one(pq % 10) || pq / 10 == pq % 10 || !th(th) || !in(what, 0, 2)) {
            return VOID;
        }
        int p = pq / 10;
        int q = pq % 10;
        if (what == 0) {
            return alikeIn(p, q, th / 1000, th % 1000);
        }
        if (what == 1) {
            int bits = 0;
            for (int town = 0; town < deaf.size(); town++) {
                bits |= alikeIn(p, q, town, th % 1000) == 5 ? 0 : 1 << town;
            }
            return bits;
        }
        List<Deed> both = new ArrayList<>();
        for (Deed deed : deeds) {
            both.add(deed.who == q ? deed.of(p) : deed);
        }
        return reception(both, p, th / 1000, th % 1000) - reception(deeds, p, th / 1000, th % 1000);
    }

    private int alikeIn(int p, int q, int town, int hour) {
        int n = 0;
        for (int mark = 0; mark < 5; mark++) {
            n += saidOf(deeds, p, mark, town, hour) == saidOf(deeds, q, mark, town, hour) ? 1 : 0;
        }
        return n;
    }

    private int refusal(int shelf, int one, int th) {
        if (!in(shelf, 0, 5) || !one(one) || !th(th)) {
            return BAD;
        }
        if (shelves[shelf] == null) {
            return -11;
        }
        return shelves[shelf] instanceof long[] row && row[0] == 0 ? 0 : -12;
    }

    private int unlike(List<Deed> of, int shelf, int one, int th) {
        long[] row = (long[]) shelves[shelf];
        for (int mark = 0; mark < Math.min(5, row.length - 1); mark++) {
            if (row[mark + 1] != saidOf(of, one, mark, th / 1000, th % 1000)) {
                return mark;
            }
        }
        return NOT;
    }

    int judge(int shelf, int one, int th) {
        int refusal = refusal(shelf, one, th);
        return refusal < 0 ? refusal : unlike(deeds, shelf, one, th);
    }

    int which(int shelf, int one, int th, int what) {
        int refusal = refusal(shelf, one, th);
        if (refusal == BAD || !in(what, 0, 2)) {
            return BAD;
        }
        if (refusal < 0) {
            return refusal;
        }
        List<Integer> sets = new ArrayList<>();
        for (int set = 0; set < 1 << deeds.size(); set++) {
            List<Deed> these = new ArrayList<>();
            boolean own = true;
            for (int i = 0; i < deeds.size(); i++) {
                if ((set >> i & 1) == 1) {
                    these.add(deeds.get(i));
                    own &= deeds.get(i).who == one;
                }
            }
            if (own && unlike(these, shelf, one, th) == NOT) {
                sets.add(set);
            }
        }
        if (what == 0) {
            return sets.size();
        }
        int all = -1;
        for (int set : sets) {
            all &= set;
        }
        return sets.isEmpty() ? NOT : what == 1 ? sets.get(0) : all;
    }

    int first(int pm, int tx, int what) {
        if (!pm(pm) || tx < 0 || !isTown(tx / 100) || tx % 100 == 0 || !in(what, 0, 1)) {
            return BAD;
        }
        int first = NOT;
        int last = NOT;
        for (int hour = 0; hour <= 999; hour++) {
            if (saidOf(deeds, pm / 10, pm % 10, tx / 100, hour) >= tx % 100) {
                first = first == NOT ? hour : first;
                last = hour;
            }
        }
        return what == 0 ? first : last;
    }

    int news(int deed, int hour) {
        if (!isDeed(deed) || hour < -2) {
            return BAD;
        }
        int last = NOT;
        int first = NOT;
        int n = 0;
        for (int town = deaf.size() - 1; town >= 0; town--) {
            int heard = heard(deed, town);
            if (heard != NOT) {
                n += heard <= hour ? 1 : 0;
                last = last == NOT || heard >= heard(deed, last) ? town : last;
                first = first == NOT || heard <= heard(deed, first) ? town : first;
            }
        }
        return hour == -1 ? last : hour == -2 ? first : n;
    }

    long garbled(int deed, int town, int part) {
        if (!isDeed(deed) || !isTown(town) || !in(part, 0, 1)) {
            return Long.MIN_VALUE;
        }
        int way = way(deeds.get(deed).town, town, true);
        if (way < 0) {
            return part;
        }
        int n = way % 100;
        BigInteger above = BigInteger.ZERO;
        for (int set = 0; set < 1 << n; set++) {
            int moved = Integer.bitCount(set);
            if (moved % 5 == 0) {
                above = above.add(BigInteger.valueOf(garble).pow(moved).multiply(BigInteger.valueOf(12 - garble).pow(n - moved)));
            }
        }
        BigInteger below = BigInteger.valueOf(12).pow(n);
        return (part == 0 ? above : below).divide(above.gcd(below)).longValueExact();
    }

    int drawn(int deed, int town, int seed, int nw) {
        if (!isDeed(deed) || !isTown(town) || nw < 0 || !in(nw / 10, 1, 50) || nw % 10 > 1) {
            return BAD;
        }
        int way = way(deeds.get(deed).town, town, true);
        if (way < 0) {
            return 0;
        }
        int z = seed;
        int same = 0;
        int sum = 0;
        for (int i = 0; i < nw / 10; i++) {
            int mark = deeds.get(deed).mark;
            for (int j = 0; j < way % 100; j++) {
                z = z * 1103515245 + 12345;
                if ((z >>> 8) % 12 < garble) {
                    mark = mark == 4 ? 0 : mark + 1;
                }
            }
            same += mark == deeds.get(deed).mark ? 1 : 0;
            sum += mark;
        }
        return nw % 10 == 0 ? same : sum;
    }

    int walk(int one, int road) {
        if (!one(one) || !in(road, 0, roads.size() - 1)) {
            return BAD;
        }
        Road r = roads.get(road);
        if (r.a != place[one] && r.b != place[one]) {
            return NOT;
        }
        if (led[4] + r.hours > 999) {
            return STATE;
        }
        place[one] = place[one] == r.a ? r.b : r.a;
        led[0]++;
        led[1] += r.hours;
        led[4] += r.hours;
        led[2] += arrested(deeds, one, place[one], led[4]) ? 1 : 0;
        return place[one];
    }

    int does(int pm, int weight) {
        if (!pm(pm) || !in(weight, 1, 9) || !isTown(place[pm / 10])) {
            return BAD;
        }
        int deed = deed(pm, place[pm / 10] * 1000 + led[4], weight);
        led[3] += deed >= 0 ? 1 : 0;
        return deed;
    }

    int led(int what) {
        return in(what, 0, 4) ? led[what] : BAD;
    }

    int image() {
        placeImage = place.clone();
        ledImage = led.clone();
        return led[4];
    }

    int back() {
        if (ledImage == null) {
            return STATE;
        }
        place = placeImage.clone();
        led = ledImage.clone();
        return led[4];
    }

    int undo() {
        if (done.isEmpty()) {
            return STATE;
        }
        Change change = done.remove(done.size() - 1);
        undone.add(change);
        set(change.number, change.what, change.from);
        return done.size();
    }

    int redo() {
        if (undone.isEmpty()) {
            return STATE;
        }
        Change change = undone.remove(undone.size() - 1);
        done.add(change);
        set(change.number, change.what, change.to);
        return undone.size();
    }

    int body(int kind) {
        if (!in(kind, 0, 7)) {
            return BAD;
        }
        if (bodies.size() == 50) {
            return FULL;
        }
        bodies.add(kind);
        return bodies.size() - 1;
    }

    int act(int body, int act, int x) {
        trace.clear();
        if (!in(body, 0, bodies.size() - 1) || !in(act, 0, 3)) {
            return 0;
        }
        ActTest.Word word = switch (bodies.get(body)) {
            case 0 -> new ActTest.Word();
            case 1 -> new ActTest.Carter();
            case 2 -> new ActTest.Feet();
            case 3 -> new ActTest.Inn();
            case 4 -> new ActTest.Twin();
            case 5 -> new ActTest.Saint();
            case 6 -> new ActTest.Letter();
            default -> new ActTest.Nobody();
        };
        word.number = body;
        ActTest.RAN.setLength(0);
        int answer = act == 0 ? word.goes(x) : act == 1 ? word.says(x) : act == 2 ? word.fades(x) : word.tells(x);
        for (String ran : ActTest.RAN.toString().split(" ")) {
            trace.add(Integer.parseInt(ran));
        }
        return answer;
    }

    int trace(int i) {
        return in(i, 0, Math.min(24, trace.size()) - 1) ? trace.get(i) : BAD;
    }

    int keep(int shelf, int body) {
        if (!in(shelf, 0, 5) || !in(body, -1, bodies.size() - 1)) {
            return BAD;
        }
        shelves[shelf] = body < 0 ? null : (Integer) body;
        return 1;
    }

    int row(int shelf, int sort, int n) {
        if (!in(shelf, 0, 5) || !in(sort, 0, 4) || n > 60) {
            return BAD;
        }
        if (n < 0) {
            return -14;
        }
        long[] row = new long[n + 1];
        row[0] = sort;
        shelves[shelf] = row;
        return 1;
    }

    int put(int shelf, int i, long v) {
        if (!in(shelf, 0, 5)) {
            return BAD;
        }
        if (shelves[shelf] == null) {
            return -11;
        }
        if (!(shelves[shelf] instanceof long[] row)) {
            return -12;
        }
        if (i < 0 || i >= row.length - 1) {
            return -13;
        }
        row[i + 1] = row[0] == 0 ? (byte) v : row[0] == 1 ? (short) v : row[0] == 2 ? (int) v
            : row[0] == 3 ? v : v == 0 ? 0 : 1;
        return 1;
    }

    long element(int shelf, int i) {
        if (!in(shelf, 0, 5) || !(shelves[shelf] instanceof long[] row)) {
            return Long.MIN_VALUE;
        }
        return i < 0 || i >= row.length - 1 ? Long.MIN_VALUE : row[i + 1];
    }

    int shift(int shelf, int i, int other, int j, int n) {
        if (!in(shelf, 0, 5) || !in(other, 0, 5)) {
            return BAD;
        }
        if (shelves[shelf] == null || shelves[other] == null) {
            return -11;
        }
        if (!(shelves[shelf] instanceof long[] from) || !(shelves[other] instanceof long[] to) || from[0] != to[0]) {
            return -12;
        }
        if (i < 0 || j < 0 || n < 0 || (long) i + n > from.length - 1 || (long) j + n > to.length - 1) {
            return -13;
        }
        long[] before = from.clone();
        for (int k = 0; k < n; k++) {
            to[j + 1 + k] = before[i + 1 + k];
        }
        return n;
    }

    int taken(int shelf, int k) {
        if (!in(shelf, 0, 5) || !in(k, 0, 7)) {
            return BAD;
        }
        if (shelves[shelf] == null) {
            return -11;
        }
        if (!(shelves[shelf] instanceof Integer body)) {
            return -12;
        }
        String[] chains = {"0", "10", "20", "320", "410", "5320", "60", "7410"};
        int kind = bodies.get(body);
        return chains[kind].indexOf('0' + k) >= 0 ? kind : -12;
    }

    int count(int what) {
        return switch (what) {
            case 0 -> deaf.size();
            case 1 -> roads.size();
            case 2 -> deeds.size();
            case 3 -> tape.length();
            case 4 -> done.size();
            case 5 -> bodies.size();
            case 6 -> trace.size();
            default -> BAD;
        };
    }
}

import java.util.Arrays;

/** Reputation arrives first: what one is said to be travels ahead by carters, quicker than feet. */
public final class FameAhead {
    public static final int BAD = -1, NOT = -2, FULL = -3, STATE = -5, VOID = -2000000000;

    private static final int NOTHING_THERE = -11, OTHER_KIND = -12, NO_PLACE = -13, NO_SIZE = -14;
    private static final int PEOPLE = 4, MARKS = 5, THIEF = 1, LAST_HOUR = 999;

    /** The bounds of the numbers that mend() tells, by its what. */
    private static final int[] LEAST = {0, 1, 0, 0, 0, 1, -9, 0, 0};
    private static final int[] MOST = {9, 24, 1, 999, 4, 9, 9, 99, 12};

    private final Land land = new Land();
    private final Ledger ledger = new Ledger();
    private final Law ruling = new Law();
    private final Reader reader = new Reader();
    private final Tidings tidings = new Tidings(land, ledger, ruling);
    private final Seeker seeker = new Seeker(land, tidings);
    private final Changes changes = new Changes();
    private final Journey journey = new Journey();
    private final Words words = new Words();
    private final Shelves shelves = new Shelves();

    public FameAhead() {
    }

    // ---- towns, roads, deeds

    public int town(int deaf) {
        if (deaf < LEAST[0] || deaf > MOST[0]) {
            return BAD;
        }
        return land.addTown(deaf);
    }

    public int road(int ab, int length) {
        if (!arePair(ab) || ab / 10 == ab % 10 || length < LEAST[1] || length > MOST[1]) {
            return BAD;
        }
        return land.addRoad(ab / 10, ab % 10, length);
    }

    public int deed(int pm, int th, int weight) {
        if (!isMarkOfOne(pm) || !isTownAndHour(th) || !isWeight(weight)) {
            return BAD;
        }
        return ledger.enter(pm / 10, th / 1000, th % 1000, pm % 10, weight);
    }

    public int deeds(int shelf, int i, int n) {
        if (!shelves.isShelf(shelf) || n < 1 || n > Ledger.DEEDS) {
            return BAD;
        }
        if (shelves.isEmpty(shelf)) {
            return 0;
        }
        if (!shelves.holdsRow(shelf, Shelves.SHORTS)) {
            return OTHER_KIND;
        }
        for (int came = 0; came < n; came++) {
            // Behind a five that came i lies within the ROW, so this sum stays small.
            if (!enterFive(shelf, i + 5 * came)) {
                return came;
            }
        }
        return n;
    }

    public int mend(int number, int what, int v) {
        if (!isMendable(number, what) || v < LEAST[what] || v > MOST[what]) {
            return VOID;
        }
        int before = numberOf(number, what);
        if (before != v) {
            changes.add(number, what, before, v);
            assign(number, what, v);
        }
        return before;
    }

    public int of(int number, int what) {
        return numberOf(number, what);
    }

    public int feed(int letter) {
        if (letter < 0 || letter > 255) {
            return BAD;
        }
        return reader.take(letter);
    }

    public int law() {
        int fault = reader.readText();
        reader.clear();
        if (fault >= 0) {
            return -100 - fault;
        }
        ruling.become(reader.draft);
        return 1;
    }

    // ---- in thought

    public int way(int ab, int what) {
        if (!arePair(ab) || what < 0 || what > 1) {
            return BAD;
        }
        return what == 0 ? land.hoursByFeet(ab / 10, ab % 10) : land.hoursByCarters(ab / 10, ab % 10);
    }

    public int heard(int deed, int town) {
        if (!ledger.isDeed(deed) || !land.isTown(town)) {
            return BAD;
        }
        return tidings.hourHeard(deed, town);
    }

    public int loud(int deed, int th) {
        if (!ledger.isDeed(deed) || !isTownAndHour(th)) {
            return BAD;
        }
        return tidings.loudness(deed, ledger.who[deed], th / 1000, th % 1000);
    }

    public int said(int pm, int th) {
        if (!isMarkOfOne(pm) || !isTownAndHour(th)) {
            return BAD;
        }
        return tidings.loudestOf(pm, th / 1000, th % 1000);
    }

    public int received(int one, int th, int what) {
        if (!isOne(one) || !isTownAndHour(th) || what < 0 || what > 3) {
            return VOID;
        }
        tidings.listen(one, one, th / 1000, th % 1000);
        switch (what) {
            case 0: return tidings.reception();
            case 1: return tidings.isArrested() ? 1 : 0;
            case 2: return tidings.marksSaid();
            default: return tidings.loudestMark();
        }
    }

    public int atHour(int one, int hour, int what) {
        if (!isOne(one) || !isHour(hour) || what < 0 || what > 2) {
            return BAD;
        }
        return what == 2 ? bestTown(one, hour) : townsWhere(one, hour, what == 1);
    }

    public int home(int one, int th, int what) {
        if (!isOne(one) || !isTownAndHour(th) || what < 0 || what > 1) {
            return BAD;
        }
        int best = NOT;
        int soonest = LAST_HOUR + 1;
        for (int town = 0; town < land.towns; town++) {
            int hours = land.hoursByFeet(th / 1000, town);
            int coming = th % 1000 + hours;
            if (hours >= 0 && coming < soonest && isUnsaid(one, town, coming)) {
                best = town;
                soonest = coming;
            }
        }
        return best == NOT || what == 1 ? best : soonest;
    }

    public int route(int one, int th, int k) {
        if (!isOne(one) || !isTownAndHour(th) || k < -1) {
            return VOID;
        }
        seeker.seek(one, th / 1000, th % 1000);
        return k == -1 ? seeker.bestSum : seeker.townAt(k);
    }

    public int needs(int pm, int th, int to, int x) {
        if (!isMarkOfOne(pm) || !isTownAndHour(th) || !isTownAndHour(to) || !isVolume(x)) {
            return BAD;
        }
        if (tidings.loudestOf(pm, to / 1000, to % 1000) >= x) {
            return 1;
        }
        for (int weight = 1; weight <= 9; weight++) {
            ledger.imagine(pm, th / 1000, th % 1000, weight);
            if (tidings.loudness(Ledger.IMAGINED, pm / 10, to / 1000, to % 1000) >= x) {
                return weight;
            }
        }
        return NOT;
    }

    public int latest(int pm, int town, int to, int wx) {
        int x = wx % 100;
        int weight = wx / 100;
        if (!isMarkOfOne(pm) || !land.isTown(town) || !isTownAndHour(to) || !isWeight(weight) || !isVolume(x)) {
            return BAD;
        }
        if (tidings.loudestOf(pm, to / 1000, to % 1000) >= x) {
            return LAST_HOUR;
        }
        for (int hour = LAST_HOUR; hour >= 0; hour--) {
            ledger.imagine(pm, town, hour, weight);
            if (tidings.loudness(Ledger.IMAGINED, pm / 10, to / 1000, to % 1000) >= x) {
                return hour;
            }
        }
        return NOT;
    }

    public int cut(int deed, int town, int what) {
        if (!ledger.isDeed(deed) || !land.isTown(town) || what < 0 || what > 1) {
            return BAD;
        }
        int fewest = 4;
        int roads = NOT;
        // Sets come in rising order, so the first one of a size is the least of that size.
        for (int set = 0; set < 1 << land.roads; set++) {
            int size = Integer.bitCount(set);
            if (size < fewest && !land.isCartedTo(ledger.place[deed], town, set)) {
                fewest = size;
                roads = set;
            }
        }
        return roads == NOT || what == 1 ? roads : fewest;
    }

    public int free(int one, int hour, int what) {
        if (!isOne(one) || !isHour(hour) || what < 0 || what > 1) {
            return BAD;
        }
        // The LOUDEST alone counts, so each DEED that is loud enough by itself must go, and no other.
        int forgotten = 0;
        for (int deed = 0; deed < ledger.size; deed++) {
            if (ledger.who[deed] == one && ledger.mark[deed] == THIEF && arrestsSomewhere(deed, hour)) {
                forgotten |= 1 << deed;
            }
        }
        return what == 1 ? forgotten : Integer.bitCount(forgotten);
    }

    public int alike(int pq, int th, int what) {
        int one = pq / 10;
        int other = pq % 10;
        if (!isOne(one) || !isOne(other) || one == other || !isTownAndHour(th) || what < 0 || what > 2) {
            return VOID;
        }
        int town = th / 1000;
        int hour = th % 1000;
        if (what == 0) {
            return tidings.marksAlike(one, other, town, hour);
        }
        if (what == 2) {
            return mixed(one, other, town, hour);
        }
        int bits = 0;
        for (int place = 0; place < land.towns; place++) {
            if (tidings.marksAlike(one, other, place, hour) < MARKS) {
                bits |= 1 << place;
            }
        }
        return bits;
    }

    // ---- seen, news

    public int judge(int shelf, int one, int th) {
        int refusal = refusalOfSeen(shelf, one, th);
        if (refusal < 0) {
            return refusal;
        }
        tidings.listen(one, one, th / 1000, th % 1000);
        return firstUnlike(shelf);
    }

    public int which(int shelf, int one, int th, int what) {
        if (what < 0 || what > 2) {
            return BAD;
        }
        int refusal = refusalOfSeen(shelf, one, th);
        if (refusal < 0) {
            return refusal;
        }
        int own = tidings.weigh(one, th / 1000, th % 1000);
        int sets = 0;
        int least = NOT;
        int inAll = NOT;
        for (int set = 0; set < 1 << ledger.size; set++) {
            if ((set & ~own) == 0 && isAsSeen(shelf, set)) {
                least = sets == 0 ? set : least;
                inAll = sets == 0 ? set : inAll & set;
                sets++;
            }
        }
        return what == 0 ? sets : what == 1 ? least : inAll;
    }

    public int first(int pm, int tx, int what) {
        int town = tx / 100;
        int x = tx % 100;
        if (!isMarkOfOne(pm) || !land.isTown(town) || !isVolume(x) || what < 0 || what > 1) {
            return BAD;
        }
        for (int k = 0; k <= LAST_HOUR; k++) {
            int hour = what == 0 ? k : LAST_HOUR - k;
            if (tidings.loudestOf(pm, town, hour) >= x) {
                return hour;
            }
        }
        return NOT;
    }

    public int news(int deed, int hour) {
        if (!ledger.isDeed(deed) || hour < -2) {
            return BAD;
        }
        int answer = hour < 0 ? NOT : 0;
        int hourOfAnswer = 0;
        for (int town = 0; town < land.towns; town++) {
            int heard = tidings.hourHeard(deed, town);
            if (heard >= 0 && hour >= 0) {
                answer += heard <= hour ? 1 : 0;
            } else if (heard >= 0
                    && (answer == NOT || (hour == -1 ? heard > hourOfAnswer : heard < hourOfAnswer))) {
                answer = town;
                hourOfAnswer = heard;
            }
        }
        return answer;
    }

    public long garbled(int deed, int town, int part) {
        if (!ledger.isDeed(deed) || !land.isTown(town) || part < 0 || part > 1) {
            return Long.MIN_VALUE;
        }
        int roads = land.roadsByCarters(ledger.place[deed], town);
        if (roads < 0) {
            return part;
        }
        long above = tidings.chancesUnchanged(roads);
        long below = 1;
        for (int k = 0; k < roads; k++) {
            below *= 12;
        }
        long common = commonDivisor(below, above);
        if (common <= 0) {
            return part;
        }
        return (part == 0 ? above : below) / common;
    }

    public int drawn(int deed, int town, int seed, int nw) {
        int n = nw / 10;
        int what = nw % 10;
        if (!ledger.isDeed(deed) || !land.isTown(town) || n < 1 || n > 50 || what < 0 || what > 1) {
            return BAD;
        }
        int roads = land.roadsByCarters(ledger.place[deed], town);
        if (roads < 0) {
            return 0;
        }
        int z = seed;
        int unchanged = 0;
        int sum = 0;
        for (int word = 0; word < n; word++) {
            int mark = ledger.mark[deed];
            for (int k = 0; k < roads; k++) {
                z = z * 1103515245 + 12345;
                if ((z >>> 8) % 12 < tidings.garble) {
                    mark = (mark + 1) % MARKS;
                }
            }
            unchanged += mark == ledger.mark[deed] ? 1 : 0;
            sum += mark;
        }
        return what == 0 ? unchanged : sum;
    }

    // ---- in deed

    public int walk(int one, int road) {
        if (!isOne(one) || !land.isRoad(road)) {
            return BAD;
        }
        int to = land.acrossFrom(road, journey.place[one]);
        if (to < 0) {
            return NOT;
        }
        int hours = land.length[road];
        if (journey.now + hours > LAST_HOUR) {
            return STATE;
        }
        journey.go(one, to, hours);
        tidings.listen(one, one, to, journey.now);
        journey.arrests += tidings.isArrested() ? 1 : 0;
        return to;
    }

    public int does(int pm, int weight) {
        if (!isMarkOfOne(pm) || !isWeight(weight) || !land.isTown(journey.place[pm / 10])) {
            return BAD;
        }
        int deed = ledger.enter(pm / 10, journey.place[pm / 10], journey.now, pm % 10, weight);
        journey.deedsDone += deed >= 0 ? 1 : 0;
        return deed;
    }

    public int led(int what) {
        switch (what) {
            case 0: return journey.roadsWalked;
            case 1: return journey.hoursWalked;
            case 2: return journey.arrests;
            case 3: return journey.deedsDone;
            case 4: return journey.now;
            default: return BAD;
        }
    }

    public int image() {
        journey.keepImage();
        return journey.now;
    }

    public int back() {
        if (!journey.hasImage) {
            return STATE;
        }
        journey.layBack();
        return journey.now;
    }

    public int undo() {
        int change = changes.stepBack();
        if (change < 0) {
            return STATE;
        }
        assign(changes.number[change], changes.what[change], changes.before[change]);
        return changes.done;
    }

    public int redo() {
        int change = changes.stepAhead();
        if (change < 0) {
            return STATE;
        }
        assign(changes.number[change], changes.what[change], changes.after[change]);
        return changes.known - changes.done;
    }

    // ---- acts, shelves

    public int body(int kind) {
        if (!words.isKind(kind)) {
            return BAD;
        }
        return words.add(kind);
    }

    public int act(int body, int act, int x) {
        return words.start(body, act, x);
    }

    public int trace(int i) {
        if (i < 0 || i >= Math.min(words.ran, Words.TRACED)) {
            return BAD;
        }
        return words.traced[i];
    }

    public int keep(int shelf, int body) {
        if (!shelves.isShelf(shelf) || (body != -1 && !words.isBody(body))) {
            return BAD;
        }
        shelves.setWord(shelf, body);
        return 1;
    }

    public int row(int shelf, int sort, int n) {
        if (!shelves.isShelf(shelf) || sort < 0 || sort > Shelves.BOOLEANS || n > Shelves.PLACES) {
            return BAD;
        }
        if (n < 0) {
            return NO_SIZE;
        }
        shelves.setRow(shelf, sort, n);
        return 1;
    }

    public int put(int shelf, int i, long v) {
        int refusal = refusalOfPlace(shelf, i);
        if (refusal < 0) {
            return refusal;
        }
        shelves.set(shelf, i, v);
        return 1;
    }

    public long element(int shelf, int i) {
        return refusalOfPlace(shelf, i) < 0 ? Long.MIN_VALUE : shelves.get(shelf, i);
    }

    public int shift(int shelf, int i, int other, int j, int n) {
        if (!shelves.isShelf(shelf) || !shelves.isShelf(other)) {
            return BAD;
        }
        if (shelves.isEmpty(shelf) || shelves.isEmpty(other)) {
            return NOTHING_THERE;
        }
        if (!shelves.isRow(shelf) || !shelves.holdsRow(other, shelves.sort[shelf])) {
            return OTHER_KIND;
        }
        if (!shelves.hasPlaces(shelf, i, n) || !shelves.hasPlaces(other, j, n)) {
            return NO_PLACE;
        }
        shelves.copy(shelf, i, other, j, n);
        return n;
    }

    public int taken(int shelf, int k) {
        if (!shelves.isShelf(shelf) || !words.isKind(k)) {
            return BAD;
        }
        if (shelves.isEmpty(shelf)) {
            return NOTHING_THERE;
        }
        int kind = shelves.isRow(shelf) ? NOT : words.kindOf(shelves.word[shelf]);
        return words.isUnder(kind, k) ? kind : OTHER_KIND;
    }

    public int count(int what) {
        switch (what) {
            case 0: return land.towns;
            case 1: return land.roads;
            case 2: return ledger.size;
            case 3: return reader.length;
            case 4: return changes.done;
            case 5: return words.bodies;
            case 6: return words.ran;
            default: return BAD;
        }
    }

    // ---- what numbers may be

    private boolean isOne(int one) {
        return one >= 0 && one < PEOPLE;
    }

    private boolean isHour(int hour) {
        return hour >= 0 && hour <= LAST_HOUR;
    }

    private boolean isWeight(int weight) {
        return weight >= 1 && weight <= 9;
    }

    private boolean isVolume(int x) {
        return x >= 1 && x <= 99;
    }

    private boolean isMarkOfOne(int pm) {
        return pm >= 0 && isOne(pm / 10) && pm % 10 < MARKS;
    }

    private boolean isTownAndHour(int th) {
        return th >= 0 && land.isTown(th / 1000);
    }

    private boolean arePair(int ab) {
        return ab >= 0 && land.isTown(ab / 10) && land.isTown(ab % 10);
    }

    private boolean isMendable(int number, int what) {
        switch (what) {
            case 0: return land.isTown(number);
            case 1:
            case 2: return land.isRoad(number);
            case 3:
            case 4:
            case 5: return ledger.isDeed(number);
            case 6: return number >= 0 && number < MARKS;
            case 7:
            case 8: return number == 0;
            default: return false;
        }
    }

    // ---- numbers told and mended

    private int numberOf(int number, int what) {
        if (what > 8) {
            return fixedNumberOf(number, what);
        }
        if (!isMendable(number, what)) {
            return VOID;
        }
        switch (what) {
            case 0: return land.deafness[number];
            case 1: return land.length[number];
            case 2: return land.carted[number];
            case 3: return ledger.hour[number];
            case 4: return ledger.mark[number];
            case 5: return ledger.weight[number];
            case 6: return tidings.worth[number];
            case 7: return tidings.arrest;
            default: return tidings.garble;
        }
    }

    private int fixedNumberOf(int number, int what) {
        if ((what == 9 || what == 10) && ledger.isDeed(number)) {
            return what == 9 ? ledger.who[number] : ledger.place[number];
        }
        if (what == 11 && isOne(number)) {
            return journey.place[number];
        }
        return what == 12 && number == 0 ? journey.now : VOID;
    }

    private void assign(int number, int what, int v) {
        if (!isMendable(number, what)) {
            return;
        }
        switch (what) {
            case 0: land.deafness[number] = v; break;
            case 1: land.length[number] = v; land.measure(); break;
            case 2: land.carted[number] = v; land.measure(); break;
            case 3: ledger.hour[number] = v; break;
            case 4: ledger.mark[number] = v; break;
            case 5: ledger.weight[number] = v; break;
            case 6: tidings.worth[number] = v; break;
            case 7: tidings.arrest = v; break;
            default: tidings.garble = v; break;
        }
    }

    private boolean enterFive(int shelf, int i) {
        if (!shelves.hasPlaces(shelf, i, 5)) {
            return false;
        }
        int who = (int) shelves.get(shelf, i);
        int town = (int) shelves.get(shelf, i + 1);
        int hour = (int) shelves.get(shelf, i + 2);
        int mark = (int) shelves.get(shelf, i + 3);
        int weight = (int) shelves.get(shelf, i + 4);
        boolean isSo = isOne(who) && land.isTown(town) && isHour(hour)
            && mark >= 0 && mark < MARKS && isWeight(weight);
        return isSo && ledger.enter(who, town, hour, mark, weight) >= 0;
    }

    // ---- parts of thoughts

    private boolean isUnsaid(int one, int town, int hour) {
        tidings.listen(one, one, town, hour);
        return tidings.marksSaid() == 0;
    }

    private int townsWhere(int one, int hour, boolean arrested) {
        int bits = 0;
        for (int town = 0; town < land.towns; town++) {
            tidings.listen(one, one, town, hour);
            if (arrested ? tidings.isArrested() : tidings.marksSaid() == 0) {
                bits |= 1 << town;
            }
        }
        return bits;
    }

    private int bestTown(int one, int hour) {
        int best = NOT;
        int most = 0;
        for (int town = 0; town < land.towns; town++) {
            tidings.listen(one, one, town, hour);
            int reception = tidings.reception();
            if (best == NOT || reception > most) {
                best = town;
                most = reception;
            }
        }
        return best;
    }

    private boolean arrestsSomewhere(int deed, int hour) {
        for (int town = 0; town < land.towns; town++) {
            if (tidings.arrestsAt(tidings.loudness(deed, ledger.who[deed], town, hour))) {
                return true;
            }
        }
        return false;
    }

    private int mixed(int one, int other, int town, int hour) {
        tidings.listen(one, other, town, hour);
        int both = tidings.reception();
        tidings.listen(one, one, town, hour);
        return both - tidings.reception();
    }

    private int refusalOfSeen(int shelf, int one, int th) {
        if (!shelves.isShelf(shelf) || !isOne(one) || !isTownAndHour(th)) {
            return BAD;
        }
        if (shelves.isEmpty(shelf)) {
            return NOTHING_THERE;
        }
        return shelves.holdsRow(shelf, Shelves.BYTES) ? 0 : OTHER_KIND;
    }

    /** The first MARK whose voice is not as the ROW tells. */
    private int firstUnlike(int shelf) {
        for (int mark = 0; mark < MARKS && shelves.hasPlaces(shelf, mark, 1); mark++) {
            if (shelves.get(shelf, mark) != tidings.voices[mark]) {
                return mark;
            }
        }
        return NOT;
    }

    private boolean isAsSeen(int shelf, int set) {
        tidings.listenToSet(set);
        return firstUnlike(shelf) == NOT;
    }

    private static long commonDivisor(long a, long b) {
        long greater = a;
        long less = b;
        for (int k = 0; k < 200 && less != 0; k++) {
            long rest = greater % less;
            greater = less;
            less = rest;
        }
        return greater;
    }

    private int refusalOfPlace(int shelf, int i) {
        if (!shelves.isShelf(shelf)) {
            return BAD;
        }
        if (shelves.isEmpty(shelf)) {
            return NOTHING_THERE;
        }
        if (!shelves.isRow(shelf)) {
            return OTHER_KIND;
        }
        return shelves.hasPlaces(shelf, i, 1) ? 0 : NO_PLACE;
    }

    /** TOWNS and ROADS, and the quickest WAYS between them. */
    private static final class Land {
        static final int TOWNS = 8, ROADS = 12;
        /** A WAY is kept as its hours times SCALE and its ROADS, so that the less is the quicker, then the one of fewer. */
        private static final int SCALE = 100, NO_WAY = 1000000;

        final int[] deafness = new int[TOWNS];
        final int[] length = new int[ROADS];
        final int[] carted = new int[ROADS];
        private final int[] oneEnd = new int[ROADS];
        private final int[] otherEnd = new int[ROADS];
        private final int[] feet = new int[TOWNS * TOWNS];
        private final int[] carters = new int[TOWNS * TOWNS];
        int towns;
        int roads;

        boolean isTown(int town) {
            return town >= 0 && town < towns;
        }

        boolean isRoad(int road) {
            return road >= 0 && road < roads;
        }

        int addTown(int deaf) {
            if (towns >= TOWNS) {
                return FULL;
            }
            deafness[towns] = deaf;
            towns++;
            measure();
            return towns - 1;
        }

        int addRoad(int a, int b, int hours) {
            if (roads >= ROADS) {
                return FULL;
            }
            oneEnd[roads] = a;
            otherEnd[roads] = b;
            length[roads] = hours;
            carted[roads] = 1;
            roads++;
            measure();
            return roads - 1;
        }

        /** The TOWN at a ROAD's other end; NOT: it does not begin there. */
        int acrossFrom(int road, int town) {
            if (oneEnd[road] == town) {
                return otherEnd[road];
            }
            return otherEnd[road] == town ? oneEnd[road] : NOT;
        }

        int hoursByFeet(int from, int to) {
            int way = feet[from * TOWNS + to];
            return way >= NO_WAY ? NOT : way / SCALE;
        }

        int hoursByCarters(int from, int to) {
            int way = carters[from * TOWNS + to];
            return way >= NO_WAY ? NOT : way / SCALE;
        }

        int roadsByCarters(int from, int to) {
            int way = carters[from * TOWNS + to];
            return way >= NO_WAY ? NOT : way % SCALE;
        }

        /** Whether CARTERS come from one TOWN to another though none go the ROADS of a set. */
        boolean isCartedTo(int from, int to, int without) {
            int reached = 1 << from;
            for (int round = 0; round < towns; round++) {
                int before = reached;
                for (int road = 0; road < roads; road++) {
                    int ends = 1 << oneEnd[road] | 1 << otherEnd[road];
                    if (carted[road] == 1 && (without >> road & 1) == 0 && (reached & ends) != 0) {
                        reached |= ends;
                    }
                }
                if (reached == before) {
                    break;
                }
            }
            return (reached >> to & 1) == 1;
        }

        /** To be called whenever a ROAD or the number of TOWNS is another. */
        void measure() {
            Arrays.fill(feet, NO_WAY);
            Arrays.fill(carters, NO_WAY);
            for (int town = 0; town < towns; town++) {
                feet[town * TOWNS + town] = 0;
                carters[town * TOWNS + town] = 0;
            }
            for (int road = 0; road < roads; road++) {
                shorten(feet, road, length[road]);
                if (carted[road] == 1) {
                    shorten(carters, road, (length[road] + 1) / 2);
                }
            }
            join(feet);
            join(carters);
        }

        private void shorten(int[] ways, int road, int hours) {
            int there = oneEnd[road] * TOWNS + otherEnd[road];
            int back = otherEnd[road] * TOWNS + oneEnd[road];
            int way = Math.min(ways[there], hours * SCALE + 1);
            ways[there] = way;
            ways[back] = way;
        }

        private void join(int[] ways) {
            for (int over = 0; over < towns; over++) {
                for (int from = 0; from < towns; from++) {
                    for (int to = 0; to < towns; to++) {
                        int way = ways[from * TOWNS + over] + ways[over * TOWNS + to];
                        if (way < ways[from * TOWNS + to]) {
                            ways[from * TOWNS + to] = way;
                        }
                    }
                }
            }
        }
    }

    /** DEEDS, and behind them a place for one that is only thought of. */
    private static final class Ledger {
        static final int DEEDS = 10, IMAGINED = 10;

        final int[] who = new int[DEEDS + 1];
        final int[] place = new int[DEEDS + 1];
        final int[] hour = new int[DEEDS + 1];
        final int[] mark = new int[DEEDS + 1];
        final int[] weight = new int[DEEDS + 1];
        int size;

        boolean isDeed(int deed) {
            return deed >= 0 && deed < size;
        }

        int enter(int one, int town, int at, int markOf, int weightOf) {
            if (size >= DEEDS) {
                return FULL;
            }
            write(size, one * 10 + markOf, town, at, weightOf);
            size++;
            return size - 1;
        }

        void imagine(int pm, int town, int at, int weightOf) {
            write(IMAGINED, pm, town, at, weightOf);
        }

        private void write(int slot, int pm, int town, int at, int weightOf) {
            who[slot] = pm / 10;
            mark[slot] = pm % 10;
            place[slot] = town;
            hour[slot] = at;
            weight[slot] = weightOf;
        }
    }

    /** THE LAW as steps of a machine with a stack; '#' pushes a number, '@' a NAME, '~' turns the sign. */
    private static final class Law {
        /** A TEXT of 120 bytes makes at most a step a byte, and one for its end. */
        private static final int ROOM = 128;

        private final int[] steps = new int[ROOM];
        private final int[] operands = new int[ROOM];
        private final int[] stack = new int[ROOM];
        private final int[] names = new int[6];
        private int length;

        void clear() {
            length = 0;
        }

        /** The new step's number, or -1 where there is no room. */
        int add(int step, int operand) {
            if (length >= ROOM) {
                return -1;
            }
            steps[length] = step;
            operands[length] = operand;
            length++;
            return length - 1;
        }

        /** Lets a step '?' lead behind the latest step. */
        void leadHere(int step) {
            if (step >= 0 && step < length) {
                operands[step] = length;
            }
        }

        void become(Law other) {
            System.arraycopy(other.steps, 0, steps, 0, ROOM);
            System.arraycopy(other.operands, 0, operands, 0, ROOM);
            length = other.length;
        }

        int volume(int w, int a, int d, int m, int t, int p) {
            if (length == 0) {
                return Math.max(0, 4 * w - a / 8 - d / 4);
            }
            names[0] = w;
            names[1] = a;
            names[2] = d;
            names[3] = m;
            names[4] = t;
            names[5] = p;
            return Math.max(0, Math.min(99, run()));
        }

        private int run() {
            int top = 0;
            int nextLine = 0;
            for (int at = 0; at < length; at++) {
                if (at < nextLine) {
                    continue;
                }
                int step = steps[at];
                int operand = operands[at];
                if (step == '#' || step == '@') {
                    if (top >= ROOM || (step == '@' && (operand < 0 || operand >= names.length))) {
                        return 0;
                    }
                    stack[top] = step == '#' ? operand : names[operand];
                    top++;
                    continue;
                }
                if (top < 1) {
                    return 0;
                }
                int right = stack[top - 1];
                if (step == ';') {
                    return right;
                }
                if (step == '?') {
                    top--;
                    nextLine = right == 0 ? operand : 0;
                } else if (step == '!' || step == '~') {
                    stack[top - 1] = step == '~' ? -right : right == 0 ? 1 : 0;
                } else {
                    if (top < 2) {
                        return 0;
                    }
                    top--;
                    stack[top - 1] = joined(step, stack[top - 1], right);
                }
            }
            return 0;
        }

        private static int joined(int step, int left, int right) {
            switch (step) {
                case '|': return left != 0 || right != 0 ? 1 : 0;
                case '&': return left != 0 && right != 0 ? 1 : 0;
                case '<': return left < right ? 1 : 0;
                case '=': return left == right ? 1 : 0;
                case '>': return left > right ? 1 : 0;
                case '+': return left + right;
                case '-': return left - right;
                case '*': return left * right;
                case '/': return right == 0 ? 0 : left / right;
                case '%': return right == 0 ? 0 : left % right;
                default: return 0;
            }
        }
    }

    /** THE TAPE, and the reading of it into a draft of THE LAW; a method for each part of a TEXT. */
    private static final class Reader {
        private static final int TAPE = 120, MOST_OPEN = 6;

        final Law draft = new Law();
        private final int[] tape = new int[TAPE];
        int length;
        private int at;
        private boolean faulty;

        int take(int letter) {
            if (length >= TAPE) {
                return FULL;
            }
            tape[length] = letter;
            length++;
            return length;
        }

        void clear() {
            length = 0;
        }

        /** The FAULT, or -1 where there is none. */
        int readText() {
            at = 0;
            faulty = false;
            draft.clear();
            readLine();
            for (int k = 0; k < TAPE && goesOnWith(';'); k++) {
                readLine();
            }
            return faulty || at < length ? at : -1;
        }

        private void readLine() {
            readE(0);
            int condition = -1;
            if (goesOnWith('?')) {
                condition = draft.add('?', 0);
                readE(0);
            }
            draft.add(';', 0);
            draft.leadHere(condition);
        }

        private void readE(int open) {
            readA(open);
            for (int k = 0; k < TAPE && goesOnWith('|'); k++) {
                readA(open);
                draft.add('|', 0);
            }
        }

        private void readA(int open) {
            readB(open);
            for (int k = 0; k < TAPE && goesOnWith('&'); k++) {
                readB(open);
                draft.add('&', 0);
            }
        }

        private void readB(int open) {
            readS(open);
            int sign = nextOf('<', '=', '>');
            if (sign != 0) {
                readS(open);
                draft.add(sign, 0);
            }
        }

        private void readS(int open) {
            readP(open);
            int sign = nextOf('+', '-', '-');
            for (int k = 0; k < TAPE && sign != 0; k++) {
                readP(open);
                draft.add(sign, 0);
                sign = nextOf('+', '-', '-');
            }
        }

        private void readP(int open) {
            readO(open);
            int sign = nextOf('*', '/', '%');
            for (int k = 0; k < TAPE && sign != 0; k++) {
                readO(open);
                draft.add(sign, 0);
                sign = nextOf('*', '/', '%');
            }
        }

        /** open: how many of ( ! - are open ahead of this O. */
        private void readO(int open) {
            int letter = letterHere();
            int name = nameOf(letter);
            if (letter >= '0' && letter <= '9') {
                readNumber();
            } else if (name >= 0) {
                at++;
                draft.add('@', name);
            } else if (open >= MOST_OPEN) {
                faulty = true;
            } else if (goesOnWith('(')) {
                readE(open + 1);
                faulty = faulty || !goesOnWith(')');
            } else if (goesOnWith('!')) {
                readO(open + 1);
                draft.add('!', 0);
            } else if (goesOnWith('-')) {
                readO(open + 1);
                draft.add('~', 0);
            } else {
                faulty = true;
            }
        }

        private void readNumber() {
            int value = 0;
            for (int k = 0; k < 4 && letterHere() >= '0' && letterHere() <= '9'; k++) {
                value = value * 10 + letterHere() - '0';
                at++;
            }
            draft.add('#', value);
        }

        /** The byte that is next; -1: none is, or the reading has ended at a FAULT. */
        private int letterHere() {
            return !faulty && at < length ? tape[at] : -1;
        }

        private boolean goesOnWith(int letter) {
            boolean isNext = letterHere() == letter;
            if (isNext) {
                at++;
            }
            return isNext;
        }

        private int nextOf(int one, int other, int third) {
            int letter = letterHere();
            return letter == one || letter == other || letter == third ? passed(letter) : 0;
        }

        private int passed(int letter) {
            if (letter >= 0) {
                at++;
            }
            return letter;
        }

        private static int nameOf(int letter) {
            switch (letter) {
                case 'w': return 0;
                case 'a': return 1;
                case 'd': return 2;
                case 'm': return 3;
                case 't': return 4;
                case 'p': return 5;
                default: return -1;
            }
        }
    }

    /** What is said where and when, and how one is received by it. */
    private static final class Tidings {
        private final Land land;
        private final Ledger ledger;
        private final Law ruling;
        final int[] worth = {1, -2, 1, 1, -1};
        /** How LOUD each MARK is SAID, as the latest listening told. */
        final int[] voices = new int[MARKS];
        private final int[] others = new int[MARKS];
        private final int[] volumes = new int[Ledger.DEEDS];
        private final long[] chances = new long[MARKS];
        int arrest = 60;
        int garble = 1;

        Tidings(Land land, Ledger ledger, Law ruling) {
            this.land = land;
            this.ledger = ledger;
            this.ruling = ruling;
        }

        int hourHeard(int deed, int town) {
            int hours = land.hoursByCarters(ledger.place[deed], town);
            return hours < 0 ? NOT : ledger.hour[deed] + hours + land.deafness[town];
        }

        /** How LOUD a DEED is said, as if one had done it. */
        int loudness(int deed, int one, int town, int hour) {
            int heard = hourHeard(deed, town);
            if (heard < 0 || heard > hour) {
                return 0;
            }
            return ruling.volume(ledger.weight[deed], hour - heard, heard - ledger.hour[deed],
                ledger.mark[deed], town, one);
        }

        int loudestOf(int pm, int town, int hour) {
            int most = 0;
            for (int deed = 0; deed < ledger.size; deed++) {
                if (ledger.who[deed] * 10 + ledger.mark[deed] == pm) {
                    most = Math.max(most, loudness(deed, pm / 10, town, hour));
                }
            }
            return most;
        }

        /** Hears of one, as if the other's DEEDS were its own, too. */
        void listen(int one, int other, int town, int hour) {
            Arrays.fill(voices, 0);
            for (int deed = 0; deed < ledger.size; deed++) {
                int who = ledger.who[deed];
                if (who == one || who == other) {
                    raise(ledger.mark[deed], loudness(deed, one, town, hour));
                }
            }
        }

        /** Notes how LOUD each DEED of one is, for listenToSet(): which DEEDS are its own. */
        int weigh(int one, int town, int hour) {
            int own = 0;
            for (int deed = 0; deed < ledger.size; deed++) {
                if (ledger.who[deed] == one) {
                    own |= 1 << deed;
                    volumes[deed] = loudness(deed, one, town, hour);
                }
            }
            return own;
        }

        void listenToSet(int set) {
            Arrays.fill(voices, 0);
            for (int deed = 0; deed < ledger.size; deed++) {
                if ((set >> deed & 1) == 1) {
                    raise(ledger.mark[deed], volumes[deed]);
                }
            }
        }

        private void raise(int mark, int volume) {
            voices[mark] = Math.max(voices[mark], volume);
        }

        int reception() {
            int sum = 0;
            for (int mark = 0; mark < MARKS; mark++) {
                sum += voices[mark] * worth[mark];
            }
            return sum;
        }

        boolean isArrested() {
            return arrestsAt(voices[THIEF]);
        }

        boolean arrestsAt(int volume) {
            return volume > 0 && volume >= arrest;
        }

        int marksSaid() {
            int said = 0;
            for (int mark = 0; mark < MARKS; mark++) {
                said += voices[mark] > 0 ? 1 : 0;
            }
            return said;
        }

        int loudestMark() {
            int loudest = NOT;
            int most = 0;
            for (int mark = 0; mark < MARKS; mark++) {
                if (voices[mark] > most) {
                    loudest = mark;
                    most = voices[mark];
                }
            }
            return loudest;
        }

        int marksAlike(int one, int other, int town, int hour) {
            listen(other, other, town, hour);
            System.arraycopy(voices, 0, others, 0, MARKS);
            listen(one, one, town, hour);
            int alike = 0;
            for (int mark = 0; mark < MARKS; mark++) {
                alike += voices[mark] == others[mark] ? 1 : 0;
            }
            return alike;
        }

        /** In how many of 12 to the power of the ROADS a MARK comes as it was. */
        long chancesUnchanged(int roads) {
            Arrays.fill(chances, 0);
            chances[0] = 1;
            for (int k = 0; k < roads; k++) {
                long last = chances[MARKS - 1];
                for (int moved = MARKS - 1; moved > 0; moved--) {
                    chances[moved] = chances[moved] * (12 - garble) + chances[moved - 1] * garble;
                }
                chances[0] = chances[0] * (12 - garble) + last * garble;
            }
            return chances[0];
        }
    }

    /** Seeks the ROUTE of best reception. */
    private static final class Seeker {
        private static final int MOST_ROADS = 4, SPAN = 24 * MOST_ROADS + 1;
        private static final int UNKNOWN = VOID, ARRESTING = VOID + 1;

        private final Land land;
        private final Tidings tidings;
        /** Each TOWN's RECEPTION by hours since the start, for it is met again by many ROUTES. */
        private final int[] receptions = new int[Land.TOWNS * SPAN];
        private int one;
        private int start;
        int bestSum;
        private int bestRoads;
        /** The TOWNS of the best ROUTE as digits to the base 8, the last one lowest. */
        private int bestTowns;

        Seeker(Land land, Tidings tidings) {
            this.land = land;
            this.tidings = tidings;
        }

        void seek(int who, int from, int hour) {
            Arrays.fill(receptions, UNKNOWN);
            one = who;
            start = hour;
            bestSum = 0;
            bestRoads = 0;
            bestTowns = 0;
            explore(from, 0, 0, 0, 0);
        }

        int townAt(int k) {
            return k < 0 || k >= bestRoads ? NOT : bestTowns >> 3 * (bestRoads - 1 - k) & 7;
        }

        private void explore(int from, int hours, int roads, int sum, int route) {
            compare(roads, sum, route);
            if (roads >= MOST_ROADS) {
                return;
            }
            for (int road = 0; road < land.roads; road++) {
                int to = land.acrossFrom(road, from);
                int coming = hours + land.length[road];
                if (to < 0 || coming >= SPAN || start + coming > LAST_HOUR) {
                    continue;
                }
                int place = to * SPAN + coming;
                if (receptions[place] == UNKNOWN) {
                    tidings.listen(one, one, to, start + coming);
                    receptions[place] = tidings.isArrested() ? ARRESTING : tidings.reception();
                }
                if (receptions[place] != ARRESTING) {
                    explore(to, coming, roads + 1, sum + receptions[place], route * 8 + to);
                }
            }
        }

        private void compare(int roads, int sum, int route) {
            boolean isBetter = sum > bestSum
                || (sum == bestSum && (roads < bestRoads || (roads == bestRoads && route < bestTowns)));
            if (isBetter) {
                bestSum = sum;
                bestRoads = roads;
                bestTowns = route;
            }
        }
    }

    /** CHANGES, the oldest first: those done, and behind them those undone. */
    private static final class Changes {
        private static final int KEPT = 40;

        final int[] number = new int[KEPT];
        final int[] what = new int[KEPT];
        final int[] before = new int[KEPT];
        final int[] after = new int[KEPT];
        int done;
        int known;

        void add(int numberOf, int whatOf, int from, int to) {
            if (done >= KEPT) {
                dropOldest();
            }
            number[done] = numberOf;
            what[done] = whatOf;
            before[done] = from;
            after[done] = to;
            done++;
            known = done;
        }

        private void dropOldest() {
            System.arraycopy(number, 1, number, 0, KEPT - 1);
            System.arraycopy(what, 1, what, 0, KEPT - 1);
            System.arraycopy(before, 1, before, 0, KEPT - 1);
            System.arraycopy(after, 1, after, 0, KEPT - 1);
            done = KEPT - 1;
        }

        /** The change to be UNDONE, or STATE. */
        int stepBack() {
            if (done <= 0) {
                return STATE;
            }
            done--;
            return done;
        }

        /** The change to be DONE AGAIN, or STATE. */
        int stepAhead() {
            if (done >= known) {
                return STATE;
            }
            done++;
            return done - 1;
        }
    }

    /** NOW, where PEOPLE are and what LED tells, and THE IMAGE of these. */
    private static final class Journey {
        private static final int NUMBERS = 5;

        final int[] place = new int[PEOPLE];
        int now;
        int roadsWalked;
        int hoursWalked;
        int arrests;
        int deedsDone;
        boolean hasImage;
        private final int[] imageOfPlace = new int[PEOPLE];
        private final int[] imageOfNumbers = new int[NUMBERS];

        void go(int one, int to, int hours) {
            place[one] = to;
            now += hours;
            roadsWalked++;
            hoursWalked += hours;
        }

        void keepImage() {
            System.arraycopy(place, 0, imageOfPlace, 0, PEOPLE);
            imageOfNumbers[0] = now;
            imageOfNumbers[1] = roadsWalked;
            imageOfNumbers[2] = hoursWalked;
            imageOfNumbers[3] = arrests;
            imageOfNumbers[4] = deedsDone;
            hasImage = true;
        }

        void layBack() {
            System.arraycopy(imageOfPlace, 0, place, 0, PEOPLE);
            now = imageOfNumbers[0];
            roadsWalked = imageOfNumbers[1];
            hoursWalked = imageOfNumbers[2];
            arrests = imageOfNumbers[3];
            deedsDone = imageOfNumbers[4];
        }
    }

    /** WORDS of KINDS, their acts, and THE TRACE. */
    private static final class Words {
        static final int TRACED = 24;
        private static final int KINDS = 8, MOST_BODIES = 50, ACTS = 4, DEEPEST = 40;
        private static final int GOES = 0, SAYS = 1, FADES = 2, TELLS = 3;
        /** The KIND above each KIND; none is above a WORD. */
        private static final int[] ABOVE = {-1, 0, 0, 2, 1, 3, 0, 4};
        /** Each KIND's own body of each act; 0: the one of the KIND above. */
        private static final int[] OWN = {
            1, 10, 11, 2,
            20, 0, 0, 0,
            0, 30, 0, 0,
            0, 41, 40, 0,
            0, 0, 50, 0,
            0, 0, 0, 60,
            70, 0, 0, 0,
            0, 80, 0, 81,
        };

        private final int[] kinds = new int[MOST_BODIES];
        final int[] traced = new int[TRACED];
        int bodies;
        int ran;
        /** The WORD whose act runs, and its KIND. */
        private int word;
        private int kind;

        boolean isKind(int k) {
            return k >= 0 && k < KINDS;
        }

        boolean isBody(int body) {
            return body >= 0 && body < bodies;
        }

        int add(int k) {
            if (bodies >= MOST_BODIES) {
                return FULL;
            }
            kinds[bodies] = k;
            bodies++;
            return bodies - 1;
        }

        /** NOT: there is no such WORD. */
        int kindOf(int body) {
            return isBody(body) ? kinds[body] : NOT;
        }

        boolean isUnder(int k, int top) {
            int at = k;
            for (int step = 0; step < KINDS && isKind(at); step++) {
                if (at == top) {
                    return true;
                }
                at = ABOVE[at];
            }
            return false;
        }

        int start(int body, int act, int x) {
            ran = 0;
            if (!isBody(body) || act < 0 || act >= ACTS) {
                return 0;
            }
            word = body;
            kind = kinds[body];
            return run(kind, act, x, 0);
        }

        /** The first KIND, from one on upward, that has a body of its own. */
        private static int ownerFrom(int from, int act) {
            int at = from;
            for (int step = 0; step < KINDS && at > 0 && OWN[at * ACTS + act] == 0; step++) {
                at = ABOVE[at];
            }
            return at;
        }

        private int run(int from, int act, int x, int depth) {
            if (depth > DEEPEST || !isKind(from) || act < 0 || act >= ACTS) {
                return 0;
            }
            int owner = ownerFrom(from, act);
            int above = ABOVE[owner];
            int next = depth + 1;
            int body = OWN[owner * ACTS + act];
            note(body);
            switch (body) {
                case 1: return x + word;
                case 2: return run(kind, SAYS, x, next) - run(kind, FADES, 1, next);
                case 10: return run(kind, GOES, x, next) * 2;
                case 11: return x ^ word;
                case 20: return run(above, GOES, x, next) + 3;
                case 30: return -run(above, SAYS, x, next);
                case 40: return run(above, FADES, x, next) * 3;
                case 41: return run(above, SAYS, x + 1, next);
                case 50: return run(above, FADES, x, next) - run(kind, GOES, 2, next);
                case 60: return run(above, TELLS, x, next) ^ 5;
                case 70: return run(above, GOES, x, next) * 2;
                case 80: return run(above, SAYS, x, next) + run(kind, FADES, 2, next);
                case 81: return run(above, TELLS, x, next) - 1;
                default: return 0;
            }
        }

        private void note(int body) {
            if (ran < TRACED) {
                traced[ran] = body;
            }
            ran++;
        }
    }

    /** SHELVES, each with nothing, a WORD or a ROW. */
    private static final class Shelves {
        static final int PLACES = 60, BYTES = 0, SHORTS = 1, INTS = 2, BOOLEANS = 4;
        private static final int SHELVES = 6, EMPTY = 0, WORD = 1, ROW = 2;

        private final int[] holding = new int[SHELVES];
        final int[] word = new int[SHELVES];
        final int[] sort = new int[SHELVES];
        private final int[] size = new int[SHELVES];
        private final long[] places = new long[SHELVES * PLACES];

        boolean isShelf(int shelf) {
            return shelf >= 0 && shelf < SHELVES;
        }

        boolean isEmpty(int shelf) {
            return holding[shelf] == EMPTY;
        }

        boolean isRow(int shelf) {
            return holding[shelf] == ROW;
        }

        boolean holdsRow(int shelf, int sortOf) {
            return isRow(shelf) && sort[shelf] == sortOf;
        }

        /** Whether n places from i on are all there; n and i may be anything. */
        boolean hasPlaces(int shelf, int i, int n) {
            return isRow(shelf) && i >= 0 && n >= 0 && n <= size[shelf] && i <= size[shelf] - n;
        }

        /** body -1: nothing. */
        void setWord(int shelf, int body) {
            holding[shelf] = body < 0 ? EMPTY : WORD;
            word[shelf] = body;
        }

        void setRow(int shelf, int sortOf, int n) {
            holding[shelf] = ROW;
            sort[shelf] = sortOf;
            size[shelf] = n;
            Arrays.fill(places, shelf * PLACES, shelf * PLACES + PLACES, 0L);
        }

        long get(int shelf, int i) {
            return places[shelf * PLACES + i];
        }

        void set(int shelf, int i, long v) {
            places[shelf * PLACES + i] = lowestBits(sort[shelf], v);
        }

        void copy(int shelf, int i, int other, int j, int n) {
            System.arraycopy(places, shelf * PLACES + i, places, other * PLACES + j, n);
        }

        private static long lowestBits(int sortOf, long v) {
            switch (sortOf) {
                case BYTES: return (byte) v;
                case SHORTS: return (short) v;
                case INTS: return (int) v;
                case BOOLEANS: return v != 0 ? 1 : 0;
                default: return v;
            }
        }
    }
}

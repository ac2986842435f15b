/**
 * Something was left on the roof of the car: a way of bends, where along it the thing may have fallen, and how
 * best to look for it. The numbered promises of the project's document say what each call answers.
 *
 * <p>Every row that a call needs is made with the object and used again, so that no call makes anything new.
 */
public final class OnTheRoof {
    public static final int NONE = -1;

    private static final int BAD = -2;
    private static final int OTHER = -3;
    private static final int NOTHING = -4;
    private static final int STUCK = -5;
    private static final int FULL = -6;
    private static final int REFUSAL_SORTS = 5;

    /** Added to the number of a refusal by worth(), whose true answers may be below 0. */
    private static final int WORTH_REFUSED = -10000000;

    /** What a FAULT of THE TAPE is taken from. */
    private static final int FAULTS_FROM = -20;

    private static final int MILLION = 1000000;
    private static final int MOST_BENDS = 14;
    private static final int MOST_SIGNS = 8;
    private static final int MOST_CALLS = 6;
    private static final int MOST_PACE = 9;
    private static final int MOST_GRIP = 10;
    private static final int MOST_BYTES = 250;
    private static final int MOST_ELEMENTS = 40;
    private static final int MOST_LOOKS = 40;
    private static final int MOST_SECONDS = 9000;
    private static final int MOST_TENS = 900;
    private static final int MOST_TRIPS = 999;
    private static final int SHELF_COUNT = 8;

    /** A SHELF with a BEND holds this and the BEND's number; less than this is the SORT of a ROW. */
    private static final int BENDS_FROM = 10;

    private static final int BEND_KIND = 0;
    private static final int SHARP_KIND = 1;
    private static final int ROUGH_KIND = 2;
    private static final int HAIRPIN_KIND = 3;
    private static final int HILL_KIND = 4;
    private static final int LIGHTS_KIND = 5;

    private final Road road;
    private final Road kept;
    private final Road draft;
    private final Weights weights;
    private final Plan plan;
    private final Tape tape;
    private final Shelf[] shelves;
    private final int[] refusals;
    private boolean hasKept;

    public OnTheRoof() {
        road = new Road();
        kept = new Road();
        draft = new Road();
        weights = new Weights();
        plan = new Plan();
        tape = new Tape();
        refusals = new int[REFUSAL_SORTS];
        shelves = new Shelf[SHELF_COUNT];
        for (int s = 0; s < shelves.length; s++) {
            shelves[s] = new Shelf();
        }
    }

    // ---- SHELVES ----

    public int row(int s, int sort, int n) {
        Shelf shelf = shelfAt(s);
        if (shelf == null || !isWithin(sort, 0, Shelf.BOOLEANS) || !isWithin(n, 0, MOST_ELEMENTS)) {
            return refuse(BAD);
        }
        shelf.takeRow(sort, n);
        return 1;
    }

    public int set(int s, int i, long v) {
        Shelf shelf = shelfAt(s);
        if (shelf == null) {
            return refuse(BAD);
        }
        if (!shelf.isRow()) {
            return refuse(shelf.isEmpty() ? NOTHING : OTHER);
        }
        if (!shelf.hasElement(i)) {
            return refuse(BAD);
        }
        shelf.putElement(i, v);
        return 1;
    }

    public int copy(int p, int q, int i, int j, int n) {
        Shelf from = shelfAt(p);
        Shelf to = shelfAt(q);
        if (from == null || to == null) {
            return refuse(BAD);
        }
        if (from.isBend() || to.isBend()) {
            return refuse(OTHER);
        }
        if (from.isEmpty() || to.isEmpty()) {
            return refuse(NOTHING);
        }
        if (from.holding != to.holding) {
            return refuse(OTHER);
        }
        if (!from.hasElements(i, n) || !to.hasElements(j, n)) {
            return refuse(BAD);
        }
        to.takeElements(from, i, j, n);
        return n;
    }

    public long element(int s, int i) {
        Shelf shelf = shelfAt(s);
        return shelf == null ? 0 : shelf.elementAt(i);
    }

    public int holds(int s) {
        Shelf shelf = shelfAt(s);
        return shelf == null ? NONE : shelf.holding;
    }

    public int show(int s, int bend) {
        Shelf shelf = shelfAt(s);
        if (shelf == null || !isBendOrNone(bend)) {
            return refuse(BAD);
        }
        shelf.takeBend(bend);
        return 1;
    }

    public int says(int s, int kind) {
        Shelf shelf = shelfAt(s);
        if (shelf == null || !isWithin(kind, BEND_KIND, LIGHTS_KIND)) {
            return refuse(BAD);
        }
        if (shelf.isEmpty()) {
            return refuse(NOTHING);
        }
        int bend = shelf.bendNumber();
        if (!road.bends.has(bend) || !isUnder(road.bends.at(bend, Road.KIND), kind)) {
            return refuse(OTHER);
        }
        switch (kind) {
            case BEND_KIND:
                return road.bends.at(bend, Road.YARDS);
            case ROUGH_KIND:
                return road.fallAt(bend, 1);
            case LIGHTS_KIND:
                return road.bends.at(bend, Road.PEOPLE);
            default:
                return road.fallAt(bend, road.pace);
        }
    }

    // ---- THE WAY ----

    public int bend(int kind, int a, int yards, int people) {
        if (!road.takes(Road.BEND, 0, kind) || !road.takes(Road.BEND, 1, a)
                || !road.takes(Road.BEND, 2, yards) || !road.takes(Road.BEND, 3, people)) {
            return refuse(BAD);
        }
        if (road.bends.isFull()) {
            return refuse(FULL);
        }
        return road.addBend(kind, a, yards, people);
    }

    public int ask(int what, int v) {
        if (!isWithin(what, 0, 2) || !road.takes(Road.PACE + what, 0, v)) {
            return refuse(BAD);
        }
        return road.settle(what, v);
    }

    public int sign(int bend, boolean is, int sure) {
        if (!isSign(bend, sure)) {
            return refuse(BAD);
        }
        if (road.signs.isFull()) {
            return refuse(FULL);
        }
        road.addSign(bend, is, sure);
        return road.signs.count;
    }

    public int anew() {
        int signs = road.signs.count;
        road.forget();
        return signs;
    }

    public int feed(int letter) {
        if (!isWithin(letter, 0, 255)) {
            return refuse(BAD);
        }
        if (tape.isFull()) {
            return refuse(FULL);
        }
        tape.write(letter);
        return tape.size;
    }

    public int wipe() {
        int size = tape.size;
        tape.size = 0;
        return size;
    }

    public int way() {
        draft.takeFrom(road);
        int statements = tape.readInto(draft);
        tape.size = 0;
        if (statements < 0) {
            refuse(BAD);
            return statements;
        }
        road.takeFrom(draft);
        return statements;
    }

    public int bendOf(int bend, int what) {
        if (!road.bends.has(bend) || !isWithin(what, 0, 6)) {
            return refuse(BAD);
        }
        switch (what) {
            case 5:
                return road.fallAt(bend, road.pace);
            case 6:
                return road.yardsTo(bend);
            default:
                return road.bends.at(bend, what);
        }
    }

    public int signOf(int i, int what) {
        if (!road.signs.has(i) || !isWithin(what, 0, 2)) {
            return refuse(BAD);
        }
        return road.signs.at(i, what);
    }

    public int call(int bend, int minutes, int knows) {
        if (!road.takes(Road.CALL, 0, bend) || !road.takes(Road.CALL, 1, minutes)
                || !road.takes(Road.CALL, 2, knows)) {
            return refuse(BAD);
        }
        if (road.calls.isFull()) {
            return refuse(FULL);
        }
        return road.addCall(bend, minutes, knows);
    }

    public int callOf(int call, int what) {
        if (!road.calls.has(call) || !isWithin(what, 0, 2)) {
            return refuse(BAD);
        }
        return road.calls.at(call, what);
    }

    // ---- WHERE IT FALLS ----

    public int fall(int bend, int pace) {
        if (!road.bends.has(bend) || !isWithin(pace, 1, MOST_PACE)) {
            return refuse(BAD);
        }
        return road.fallAt(bend, pace);
    }

    public int fell(int bend, int pace) {
        if (!isBendOrNone(bend) || !isWithin(pace, 1, MOST_PACE)) {
            return refuse(BAD);
        }
        return road.fellAt(bend, pace);
    }

    public int weight(int bend) {
        if (!isBendOrNone(bend)) {
            return refuse(BAD);
        }
        weights.weigh(road);
        return weights.at(bend);
    }

    public int likely(int bend) {
        if (!isBendOrNone(bend)) {
            return refuse(BAD);
        }
        weights.weigh(road);
        return thousandthsOfAll(weights.at(bend));
    }

    public int between(int bend, int other) {
        if (!road.bends.has(bend) || !road.bends.has(other) || other < bend) {
            return refuse(BAD);
        }
        weights.weigh(road);
        return thousandthsOfAll(weights.sum(bend, other));
    }

    public int half() {
        weights.weigh(road);
        int all = weights.all();
        for (int i = 0; i < road.bends.count; i++) {
            if (2 * weights.sum(0, i) >= all) {
                return i;
            }
        }
        return NONE;
    }

    public int few(int v) {
        if (!isWithin(v, 0, 1000)) {
            return refuse(BAD);
        }
        weights.weigh(road);
        return weights.fewestFor(v);
    }

    public int asks() {
        if (road.bends.count == 0) {
            return refuse(STUCK);
        }
        weights.weigh(road);
        return weights.evenestBend();
    }

    public int after(int bend, boolean is, int sure) {
        if (!isSign(bend, sure)) {
            return refuse(BAD);
        }
        if (road.signs.isFull()) {
            return refuse(FULL);
        }
        weights.weigh(road);
        weights.heed(bend, is, sure);
        return thousandthsOfAll(weights.at(NONE));
    }

    public int where() {
        if (road.bends.count == 0) {
            return refuse(STUCK);
        }
        weights.weigh(road);
        return weights.greatestBut(0);
    }

    public int last() {
        weights.weigh(road);
        for (int i = road.bends.count - 1; i >= 0; i--) {
            if (weights.at(i) > 0) {
                return i;
            }
        }
        return NONE;
    }

    public int worst() {
        if (road.bends.count == 0) {
            return refuse(STUCK);
        }
        int worst = 0;
        for (int i = 1; i < road.bends.count; i++) {
            if (road.fallAt(i, road.pace) > road.fallAt(worst, road.pace)) {
                worst = i;
            }
        }
        return worst;
    }

    // ---- LOOKS and what they find ----

    public int seconds(int bend, int look) {
        if (!isLookAt(bend, look)) {
            return refuse(BAD);
        }
        return road.secondsOf(bend, look);
    }

    public int found(int bend, int look) {
        if (!isLookAt(bend, look)) {
            return refuse(BAD);
        }
        weights.weigh(road);
        return weights.foundBy(bend, look);
    }

    public int best(int seconds, int i) {
        if (!isWithin(seconds, 0, MOST_SECONDS) || !isBendOrNone(i)) {
            return refuse(BAD);
        }
        int tens = seconds / 10;
        weights.weigh(road);
        plan.make(weights, road, tens);
        return i == NONE ? plan.foundIn(tens) : plan.lookIn(tens, i);
    }

    public int next() {
        weights.weigh(road);
        return weights.nextLook(road);
    }

    public int soonest(int v) {
        if (!isWithin(v, 0, MILLION)) {
            return refuse(BAD);
        }
        weights.weigh(road);
        plan.make(weights, road, MOST_TENS);
        for (int tens = 0; tens <= MOST_TENS; tens++) {
            if (plan.foundIn(tens) >= v) {
                return 10 * tens;
            }
        }
        return NONE;
    }

    public int order(int i) {
        if (!isWithin(i, 0, MOST_LOOKS)) {
            return refuse(BAD);
        }
        weights.weigh(road);
        weights.lookOnInVain(road, i);
        return weights.nextLook(road);
    }

    public int vain(int n) {
        if (!isWithin(n, 0, MOST_LOOKS)) {
            return refuse(BAD);
        }
        weights.weigh(road);
        weights.lookOnInVain(road, n);
        return weights.all();
    }

    public int others(int n) {
        if (!isWithin(n, 0, 300)) {
            return refuse(BAD);
        }
        weights.weigh(road);
        int gone = 0;
        for (int i = 0; i < road.bends.count; i++) {
            gone += goneBy(weights.at(i), road.bends.at(i, Road.PEOPLE), n);
        }
        return gone;
    }

    // ---- how one drives ----

    public int fast(int v) {
        if (!isWithin(v, 0, MILLION)) {
            return refuse(BAD);
        }
        for (int pace = MOST_PACE; pace >= 1; pace--) {
            if (road.heldBy(pace, road.wet, road.grip) >= v) {
                return pace;
            }
        }
        return NONE;
    }

    public int drove(int bend) {
        if (!road.bends.has(bend)) {
            return refuse(BAD);
        }
        int drove = 1;
        for (int pace = 2; pace <= MOST_PACE; pace++) {
            if (road.fellAt(bend, pace) > road.fellAt(bend, drove)) {
                drove = pace;
            }
        }
        return drove;
    }

    public int gripFor(int v) {
        if (!isWithin(v, 0, MILLION)) {
            return refuse(BAD);
        }
        for (int grip = 0; grip <= MOST_GRIP; grip++) {
            if (road.heldBy(road.pace, road.wet, grip) >= v) {
                return grip;
            }
        }
        return NONE;
    }

    public int otherwise() {
        return road.heldBy(road.pace, 1 - road.wet, road.grip);
    }

    public int slows(int k) {
        if (!isWithin(k, 0, 3)) {
            return refuse(BAD);
        }
        int sets = 1 << road.bends.count;
        int slowed = 0;
        int most = NONE;
        int set = 0;
        while (set < sets) {
            if (Integer.bitCount(set) > k) {
                // The sets up to there hold no fewer BENDS.
                set += set & -set;
            } else {
                int held = road.heldWith(set, 0);
                if (held > most) {
                    most = held;
                    slowed = set;
                }
                set++;
            }
        }
        return slowed;
    }

    public int without(int bend) {
        if (!road.bends.has(bend)) {
            return refuse(BAD);
        }
        return road.heldWith(0, 1 << bend);
    }

    public int once(int n) {
        if (!isWithin(n, 0, MOST_TRIPS)) {
            return refuse(BAD);
        }
        int held = heldNow();
        int holds = MILLION;
        for (int trip = 0; trip < n; trip++) {
            holds = afterTrip(holds, held);
        }
        return MILLION - holds;
    }

    public int until(int v) {
        if (!isWithin(v, 0, MILLION)) {
            return refuse(BAD);
        }
        int held = heldNow();
        int holds = MILLION;
        for (int trips = 0; trips <= MOST_TRIPS; trips++) {
            if (MILLION - holds >= v) {
                return trips;
            }
            holds = afterTrip(holds, held);
        }
        return NONE;
    }

    public int worth(int n, int price, int cost) {
        if (!isWithin(n, 0, MOST_TRIPS) || !isWithin(price, 0, 999) || !isWithin(cost, 0, 9999)) {
            return WORTH_REFUSED + refuse(BAD);
        }
        long lost = (long) n * price * (MILLION - heldNow()) / MILLION;
        return (int) lost - cost;
    }

    // ---- CALLS ----

    public int hears(int call) {
        if (!road.calls.has(call)) {
            return refuse(BAD);
        }
        weights.weigh(road);
        return heardBy(call);
    }

    public int rings(int minutes) {
        if (!isWithin(minutes, 0, 999)) {
            return refuse(BAD);
        }
        weights.weigh(road);
        int sets = 1 << road.calls.count;
        int rung = 0;
        int most = NONE;
        for (int set = 0; set < sets; set++) {
            int heard = minutesOf(set) <= minutes ? heardBySet(set) : NONE;
            if (heard > most) {
                most = heard;
                rung = set;
            }
        }
        return rung;
    }

    // ---- told ROWS ----

    public int judge(int s, int n) {
        Shelf shelf = shelfAt(s);
        if (shelf == null) {
            return refuse(BAD);
        }
        int refusal = shelf.refusalOfTold(n);
        if (refusal != 0) {
            return refuse(refusal);
        }
        return wrongPiece(shelf, n);
    }

    public int apart(int s, int n) {
        Shelf shelf = shelfAt(s);
        if (shelf == null) {
            return refuse(BAD);
        }
        int refusal = shelf.refusalOfTold(n);
        if (refusal != 0) {
            return refuse(refusal);
        }
        if (wrongPiece(shelf, n) != NONE) {
            return refuse(STUCK);
        }
        int most = 0;
        for (int i = 1; i < n; i++) {
            int yards = road.yardsTo((int) shelf.elementAt(i)) - road.yardsTo((int) shelf.elementAt(i - 1));
            most = Math.max(most, yards);
        }
        return most;
    }

    public int search(int s, int n, int what) {
        Shelf shelf = shelfAt(s);
        if (shelf == null || !isWithin(what, 0, 1)) {
            return refuse(BAD);
        }
        int refusal = shelf.refusalOfTold(n);
        if (refusal != 0) {
            return refuse(refusal);
        }
        for (int i = 0; i < n; i++) {
            if (!isToldLook(shelf.elementAt(i))) {
                return refuse(STUCK);
            }
        }
        weights.weigh(road);
        int seconds = 0;
        int found = 0;
        for (int i = 0; i < n; i++) {
            int bend = (int) (shelf.elementAt(i) / 10);
            int look = (int) (shelf.elementAt(i) % 10);
            seconds += road.secondsOf(bend, look);
            found += weights.foundBy(bend, look);
            weights.lookInVain(bend, look);
        }
        return what == 0 ? seconds : found;
    }

    // ---- IN TRUTH ----

    public int lies(int bend) {
        if (!isBendOrNone(bend)) {
            return refuse(BAD);
        }
        int ahead = road.lies;
        road.lies = bend;
        return ahead;
    }

    public int drive() {
        return road.driveInTruth();
    }

    public int look(int bend, int look) {
        if (!isLookAt(bend, look)) {
            return refuse(BAD);
        }
        return road.lookInTruth(bend, look);
    }

    public int trips(int n) {
        if (!isWithin(n, 1, 99)) {
            return refuse(BAD);
        }
        int fallen = 0;
        for (int trip = 0; trip < n; trip++) {
            fallen += road.driveInTruth();
        }
        return fallen;
    }

    public int seed(int v) {
        int ahead = road.seed;
        road.seed = v;
        return ahead;
    }

    // ---- all of it ----

    public int image() {
        kept.takeFrom(road);
        hasKept = true;
        return 1;
    }

    public int back() {
        if (!hasKept) {
            return refuse(STUCK);
        }
        road.takeFrom(kept);
        for (int s = 0; s < shelves.length; s++) {
            Shelf shelf = shelfAt(s);
            if (shelf != null && shelf.isBend() && !road.bends.has(shelf.bendNumber())) {
                shelf.takeBend(NONE);
            }
        }
        return 1;
    }

    public int status(int what) {
        if (isWithin(what, 12, 16)) {
            return refused(what - 12);
        }
        switch (what) {
            case 0:
                return road.bends.count;
            case 1:
                return road.signs.count;
            case 2:
                return road.pace;
            case 3:
                return road.wet;
            case 4:
                return road.grip;
            case 5:
                return road.yardsTo(road.bends.count - 1);
            case 6:
                return road.lies;
            case 7:
                weights.weigh(road);
                return weights.all();
            case 8:
                return tape.size;
            case 9:
                return road.seed;
            case 10:
                return fullShelves();
            case 11:
                return road.bendsLookedAt();
            case 17:
                return road.calls.count;
            default:
                return NONE;
        }
    }

    // ---- what the calls share ----

    private int refuse(int number) {
        int sort = BAD - number;
        if (sort >= 0 && sort < refusals.length) {
            refusals[sort]++;
        }
        return number;
    }

    private int refused(int sort) {
        return sort >= 0 && sort < refusals.length ? refusals[sort] : 0;
    }

    private Shelf shelfAt(int s) {
        return s >= 0 && s < shelves.length ? shelves[s] : null;
    }

    private int fullShelves() {
        int full = 0;
        for (int s = 0; s < shelves.length; s++) {
            Shelf shelf = shelfAt(s);
            if (shelf != null && !shelf.isEmpty()) {
                full++;
            }
        }
        return full;
    }

    private boolean isBendOrNone(int bend) {
        return bend == NONE || road.bends.has(bend);
    }

    private boolean isLookAt(int bend, int look) {
        return road.bends.has(bend) && isLook(look);
    }

    private boolean isSign(int bend, int sure) {
        return road.takes(Road.SEEN, 0, bend) && road.takes(Road.SEEN, 1, sure);
    }

    private boolean isToldLook(long told) {
        return told >= 0 && told / 10 < road.bends.count && isLook((int) (told % 10));
    }

    private int heldNow() {
        return road.heldBy(road.pace, road.wet, road.grip);
    }

    /** Of the WEIGHTS that stand: STUCK if all are 0. */
    private int thousandthsOfAll(int part) {
        int all = weights.all();
        if (all <= 0) {
            return refuse(STUCK);
        }
        return (int) (1000L * part / all);
    }

    /** Of the WEIGHTS that stand. */
    private int heardBy(int call) {
        int own = road.calls.at(call, Road.PLACE);
        int from = 0;
        for (int i = 0; i < road.calls.count; i++) {
            int other = road.calls.at(i, Road.PLACE);
            if (i != call && other < own) {
                from = Math.max(from, other + 1);
            }
        }
        return weights.sum(from, own) * road.calls.at(call, Road.KNOWS) / 100;
    }

    private int heardBySet(int set) {
        int heard = 0;
        for (int i = 0; i < road.calls.count; i++) {
            if (isIn(set, i)) {
                heard += heardBy(i);
            }
        }
        return heard;
    }

    private int minutesOf(int set) {
        int minutes = 0;
        for (int i = 0; i < road.calls.count; i++) {
            if (isIn(set, i)) {
                minutes += road.calls.at(i, Road.MINUTES);
            }
        }
        return minutes;
    }

    private int wrongPiece(Shelf shelf, int n) {
        long before = 0;
        for (int i = 0; i < n; i++) {
            long piece = shelf.elementAt(i);
            if (piece < before || piece >= road.bends.count) {
                return i;
            }
            before = piece;
        }
        return NONE;
    }

    private static boolean isWithin(int v, int least, int most) {
        return v >= least && v <= most;
    }

    private static boolean isIn(int set, int i) {
        return (set >> i & 1) == 1;
    }

    private static boolean isLook(int look) {
        return isWithin(look, 1, 3);
    }

    private static boolean isUnder(int kind, int other) {
        return kind == other || other == BEND_KIND
                || kind == HAIRPIN_KIND && other == SHARP_KIND
                || kind == HILL_KIND && other == ROUGH_KIND;
    }

    /** Of 100: how often a look (1 to 3) sees what lies there. */
    private static int seenBy(int look) {
        switch (look) {
            case 1:
                return 30;
            case 2:
                return 60;
            default:
                return 90;
        }
    }

    private static int missBehind(int miss, int look) {
        return miss * (100 - seenBy(look)) / 100;
    }

    private static int goneBy(int weight, int people, int minutes) {
        int left = weight;
        for (int minute = 0; minute < minutes; minute++) {
            left -= left * people / 1000;
        }
        return weight - left;
    }

    private static int afterTrip(int holds, int held) {
        return (int) ((long) holds * held / MILLION);
    }

    /** Rows of so many numbers each, up to a bound, one behind the other. */
    private static final class Table {
        final int[] cells;
        final int width;
        int count;

        Table(int most, int width) {
            this.cells = new int[Math.max(0, most * width)];
            this.width = width;
        }

        boolean has(int row) {
            return row >= 0 && row < count;
        }

        boolean isFull() {
            return (count + 1) * width > cells.length;
        }

        int at(int row, int column) {
            int cell = cellOf(row, column);
            return cell >= 0 && cell < cells.length ? cells[cell] : 0;
        }

        void put(int row, int column, int v) {
            int cell = cellOf(row, column);
            if (cell >= 0 && cell < cells.length) {
                cells[cell] = v;
            }
        }

        /** One row more, whose numbers are to be put: its number, or NONE. */
        int grow() {
            if (isFull()) {
                return NONE;
            }
            count++;
            return count - 1;
        }

        void takeFrom(Table other) {
            System.arraycopy(other.cells, 0, cells, 0, Math.min(other.cells.length, cells.length));
            count = other.count;
        }

        private int cellOf(int row, int column) {
            return row >= 0 && row < count && column >= 0 && column < width ? row * width + column : NONE;
        }
    }

    /** THE WAY with its SIGNS and CALLS, how it is driven, and where the thing lies in truth. */
    private static final class Road {
        // The columns of BENDS.
        static final int KIND = 0;
        static final int CURVE = 1;
        static final int YARDS = 2;
        static final int PEOPLE = 3;
        static final int MISS = 4;

        // The columns of SIGNS and of CALLS, whose BEND is the first of both.
        static final int PLACE = 0;
        static final int IS = 1;
        static final int SURE = 2;
        static final int MINUTES = 1;
        static final int KNOWS = 2;

        // The STATEMENTS that a text may hold, by their words.
        static final int BEND = 0;
        static final int PACE = 1;
        static final int WET = 2;
        static final int GRIP = 3;
        static final int SEEN = 4;
        static final int GONE = 5;
        static final int CALL = 6;
        static final int LOOK = 7;

        /** Stands in MOST for the number of the last BEND. */
        static final int LAST_BEND = -1;

        /** How many numbers each STATEMENT has; LEAST and MOST have four for each. */
        static final int[] NUMBERS = {4, 1, 1, 1, 2, 2, 3, 2};
        static final int[] LEAST = {
            0, 0, 1, 0,
            1, 0, 0, 0,
            0, 0, 0, 0,
            0, 0, 0, 0,
            0, 0, 0, 0,
            0, 0, 0, 0,
            0, 1, 0, 0,
            0, 0, 0, 0};
        static final int[] MOST = {
            5, 9, 999, 1000,
            9, 0, 0, 0,
            1, 0, 0, 0,
            10, 0, 0, 0,
            -1, 100, 0, 0,
            -1, 100, 0, 0,
            -1, 99, 100, 0,
            -1, 2, 0, 0};

        final Table bends;
        final Table signs;
        final Table calls;
        int pace;
        int wet;
        int grip;
        int lies;
        int seed;

        Road() {
            bends = new Table(MOST_BENDS, 5);
            signs = new Table(MOST_SIGNS, 3);
            calls = new Table(MOST_CALLS, 3);
            pace = 3;
            lies = NONE;
            seed = 1;
        }

        void takeFrom(Road other) {
            bends.takeFrom(other.bends);
            signs.takeFrom(other.signs);
            calls.takeFrom(other.calls);
            pace = other.pace;
            wet = other.wet;
            grip = other.grip;
            lies = other.lies;
            seed = other.seed;
        }

        static int numbersOf(int statement) {
            return statement >= 0 && statement < NUMBERS.length ? NUMBERS[statement] : 0;
        }

        /** Whether a number may be the one at that place of a STATEMENT, as things stand. */
        boolean takes(int statement, int place, int number) {
            int cell = 4 * statement + place;
            if (cell < 0 || cell >= LEAST.length || cell >= MOST.length) {
                return false;
            }
            int most = MOST[cell] == LAST_BEND ? bends.count - 1 : MOST[cell];
            return number >= LEAST[cell] && number <= most;
        }

        boolean hasRoomFor(int statement) {
            switch (statement) {
                case BEND:
                    return !bends.isFull();
                case SEEN:
                case GONE:
                    return !signs.isFull();
                case CALL:
                    return !calls.isFull();
                default:
                    return true;
            }
        }

        int addBend(int kind, int curve, int yards, int people) {
            int bend = bends.grow();
            bends.put(bend, KIND, kind);
            bends.put(bend, CURVE, curve);
            bends.put(bend, YARDS, yards);
            bends.put(bend, PEOPLE, people);
            bends.put(bend, MISS, 100);
            return bend;
        }

        void addSign(int bend, boolean is, int sure) {
            int sign = signs.grow();
            signs.put(sign, PLACE, bend);
            signs.put(sign, IS, is ? 1 : 0);
            signs.put(sign, SURE, sure);
        }

        int addCall(int bend, int minutes, int knows) {
            int call = calls.grow();
            calls.put(call, PLACE, bend);
            calls.put(call, MINUTES, minutes);
            calls.put(call, KNOWS, knows);
            return call;
        }

        /** PACE (0), WET (1) or GRIP (2) becomes v: what it was. */
        int settle(int what, int v) {
            int was;
            switch (what) {
                case 0:
                    was = pace;
                    pace = v;
                    return was;
                case 1:
                    was = wet;
                    wet = v;
                    return was;
                default:
                    was = grip;
                    grip = v;
                    return was;
            }
        }

        void lookInVain(int bend, int look) {
            bends.put(bend, MISS, missBehind(bends.at(bend, MISS), look));
        }

        /** No SIGNS, no LOOKS any more. */
        void forget() {
            signs.count = 0;
            for (int i = 0; i < bends.count; i++) {
                bends.put(i, MISS, 100);
            }
        }

        int bendsLookedAt() {
            int lookedAt = 0;
            for (int i = 0; i < bends.count; i++) {
                if (bends.at(i, MISS) != 100) {
                    lookedAt++;
                }
            }
            return lookedAt;
        }

        int yardsTo(int bend) {
            int yards = 0;
            for (int i = 0; i < bends.count && i <= bend; i++) {
                yards += bends.at(i, YARDS);
            }
            return yards;
        }

        int secondsOf(int bend, int look) {
            int yards = bends.at(bend, YARDS);
            switch (look) {
                case 1:
                    return yards / 10 + 1;
                case 2:
                    return yards / 4 + 1;
                default:
                    return yards + 1;
            }
        }

        int fallAt(int bend, int speed) {
            return fallBy(bend, speed, wet, grip);
        }

        private int fallBy(int bend, int speed, int wetness, int hold) {
            int curve = bends.at(bend, CURVE);
            int fall = dryFall(bends.at(bend, KIND), curve, speed) + 20 * wetness;
            return Math.max(0, Math.min(1000, fall * (MOST_GRIP - hold) / 10));
        }

        private static int dryFall(int kind, int curve, int speed) {
            switch (kind) {
                case SHARP_KIND:
                    return curve * speed + speed * speed;
                case HAIRPIN_KIND:
                    return 2 * (curve * speed + speed * speed);
                case ROUGH_KIND:
                    return 10 + curve * speed;
                case HILL_KIND:
                    return 30 + curve * speed;
                case LIGHTS_KIND:
                    return curve;
                default:
                    return curve * speed;
            }
        }

        /** FELL at a BEND, or HELD for NONE. */
        int fellAt(int bend, int speed) {
            int holds = MILLION;
            for (int i = 0; i < bends.count; i++) {
                int fell = holds * fallAt(i, speed) / 1000;
                if (i == bend) {
                    return fell;
                }
                holds -= fell;
            }
            return holds;
        }

        int heldBy(int speed, int wetness, int hold) {
            int holds = MILLION;
            for (int i = 0; i < bends.count; i++) {
                holds -= holds * fallBy(i, speed, wetness, hold) / 1000;
            }
            return holds;
        }

        /** HELD, if some BENDS were gone through by PACE 1 and some had no FALL, both told as bits. */
        int heldWith(int slowed, int spared) {
            int holds = MILLION;
            for (int i = 0; i < bends.count; i++) {
                if (!isIn(spared, i)) {
                    holds -= holds * fallAt(i, isIn(slowed, i) ? 1 : pace) / 1000;
                }
            }
            return holds;
        }

        private int draw(int below) {
            seed = seed * 1103515245 + 12345;
            return below > 0 ? (seed >>> 16) % below : 0;
        }

        /** 1: it fell; 0: it held. */
        int driveInTruth() {
            forget();
            lies = NONE;
            for (int i = 0; i < bends.count; i++) {
                if (draw(1000) < fallAt(i, pace)) {
                    lies = i;
                    return 1;
                }
            }
            return 0;
        }

        /** 1: it is found; 0: in vain. */
        int lookInTruth(int bend, int look) {
            if (lies == bend && draw(100) < seenBy(look)) {
                return 1;
            }
            lookInVain(bend, look);
            return 0;
        }
    }

    /** The WEIGHTS of a Road, and what further SIGNS and LOOKS in vain would make of them. */
    private static final class Weights {
        /** FELL by the SIGNS, without the LOOKS. */
        final int[] fallen;
        final int[] miss;
        int bends;
        int held;

        Weights() {
            fallen = new int[MOST_BENDS];
            miss = new int[MOST_BENDS];
        }

        void weigh(Road road) {
            bends = Math.min(road.bends.count, MOST_BENDS);
            for (int i = 0; i < bends; i++) {
                fallen[i] = road.fellAt(i, road.pace);
                miss[i] = road.bends.at(i, Road.MISS);
            }
            held = road.fellAt(NONE, road.pace);
            for (int i = 0; i < road.signs.count; i++) {
                heed(road.signs.at(i, Road.PLACE), road.signs.at(i, Road.IS) == 1, road.signs.at(i, Road.SURE));
            }
        }

        /** One SIGN more. LOOKS come behind all SIGNS, which is why MISS stands aside. */
        void heed(int bend, boolean is, int sure) {
            int left = 100 - sure;
            for (int i = 0; i < bends; i++) {
                if (is == (i <= bend)) {
                    fallen[i] = fallen[i] * left / 100;
                }
            }
            if (!is) {
                held = held * left / 100;
            }
        }

        /** Of a BEND, or of HELD for NONE. */
        int at(int bend) {
            if (bend == NONE) {
                return held;
            }
            return bend >= 0 && bend < bends ? fallen[bend] * miss[bend] / 100 : 0;
        }

        int sum(int from, int to) {
            int sum = 0;
            for (int i = Math.max(0, from); i <= to && i < bends; i++) {
                sum += at(i);
            }
            return sum;
        }

        int all() {
            return sum(0, bends - 1) + held;
        }

        /** The BEND of the greatest WEIGHT, but for some told as bits; NONE. */
        int greatestBut(int taken) {
            int greatest = NONE;
            for (int i = 0; i < bends; i++) {
                if (!isIn(taken, i) && (greatest == NONE || at(i) > at(greatest))) {
                    greatest = i;
                }
            }
            return greatest;
        }

        /** How few BENDS have so many thousandths of what all BENDS have. */
        int fewestFor(int thousandths) {
            long wanted = (long) thousandths * sum(0, bends - 1);
            long have = 0;
            int taken = 0;
            for (int few = 0; few < bends; few++) {
                if (1000 * have >= wanted) {
                    return few;
                }
                int bend = greatestBut(taken);
                have += at(bend);
                taken |= 1 << bend;
            }
            return bends;
        }

        /** The BEND that parts all WEIGHTS, HELD too, into the most equal two. */
        int evenestBend() {
            int all = all();
            int evenest = 0;
            for (int i = 1; i < bends; i++) {
                if (Math.abs(all - 2 * sum(0, i)) < Math.abs(all - 2 * sum(0, evenest))) {
                    evenest = i;
                }
            }
            return evenest;
        }

        int foundBy(int bend, int look) {
            return at(bend) * seenBy(look) / 100;
        }

        void lookInVain(int bend, int look) {
            if (bend >= 0 && bend < bends) {
                miss[bend] = missBehind(miss[bend], look);
            }
        }

        /** NEXT, or NONE. */
        int nextLook(Road road) {
            int found = NONE;
            long most = 0;
            for (int bend = 0; bend < bends; bend++) {
                for (int look = 1; look <= 3; look++) {
                    long rate = rateOf(road, bend, look);
                    if (rate > most) {
                        most = rate;
                        found = 10 * bend + look;
                    }
                }
            }
            return found;
        }

        private long rateOf(Road road, int bend, int look) {
            int seconds = road.secondsOf(bend, look);
            return seconds > 0 ? 1000L * foundBy(bend, look) / seconds : 0;
        }

        /** So many LOOKS in vain, each NEXT then; fewer, if there is no NEXT. */
        void lookOnInVain(Road road, int looks) {
            for (int i = 0; i < looks; i++) {
                int look = nextLook(road);
                if (look == NONE) {
                    return;
                }
                lookInVain(look / 10, look % 10);
            }
        }
    }

    /**
     * BEST for every time up to a bound. Going from the last BEND to the first, each time keeps the most that is
     * FOUND by the BENDS up to there and its row of looks, two bits a BEND; as a look replaces another only where
     * it finds more, the row that stays is the first of the best.
     */
    private static final class Plan {
        final int[] most;
        final int[] rows;

        /** Of each look at the BEND in hand: its tens of seconds and what is FOUND by it. */
        final int[] tensOf;
        final int[] gainOf;

        Plan() {
            most = new int[MOST_TENS + 1];
            rows = new int[MOST_TENS + 1];
            tensOf = new int[4];
            gainOf = new int[4];
        }

        void make(Weights weights, Road road, int tens) {
            int last = Math.min(tens, MOST_TENS);
            for (int t = 0; t <= last; t++) {
                most[t] = 0;
                rows[t] = 0;
            }
            for (int bend = weights.bends - 1; bend >= 0; bend--) {
                for (int look = 1; look < tensOf.length; look++) {
                    tensOf[look] = (road.secondsOf(bend, look) + 9) / 10;
                    gainOf[look] = weights.foundBy(bend, look);
                }
                // From the longest time on, as the shorter ones are wanted without this BEND yet.
                for (int t = last; t >= 0; t--) {
                    chooseLook(bend, t);
                }
            }
        }

        private void chooseLook(int bend, int tens) {
            int found = most[tens];
            int row = rows[tens];
            for (int look = 1; look < tensOf.length; look++) {
                int rest = tens - tensOf[look];
                if (rest >= 0 && rest < tens && most[rest] + gainOf[look] > found) {
                    found = most[rest] + gainOf[look];
                    row = rows[rest] | look << 2 * bend;
                }
            }
            most[tens] = found;
            rows[tens] = row;
        }

        int foundIn(int tens) {
            return tens >= 0 && tens < most.length ? most[tens] : 0;
        }

        /** 0 for no look. */
        int lookIn(int tens, int bend) {
            return tens >= 0 && tens < rows.length ? rows[tens] >> 2 * bend & 3 : 0;
        }
    }

    /** THE TAPE, and how it is read as a WAY. */
    private static final class Tape {
        // What a TOKEN may be.
        static final int END = 0;
        static final int WORD = 1;
        static final int NUMBER = 2;
        static final int SEMICOLON = 3;
        static final int STRANGE = 4;

        static final int MOST_DIGITS = 4;

        final int[] bytes;
        int size;

        /** The TOKEN in hand: what it is, its first place, and the one behind it. */
        int sort;
        int start;
        int end;

        /** The numbers of the STATEMENT in hand. */
        final int[] numbers;

        Tape() {
            bytes = new int[MOST_BYTES];
            numbers = new int[4];
        }

        boolean isFull() {
            return size >= bytes.length;
        }

        void write(int letter) {
            if (size >= 0 && size < bytes.length) {
                bytes[size] = letter;
                size++;
            }
        }

        /** How many STATEMENTS were carried out on a Road; less than 0, with the FAULT, if it is no WAY. */
        int readInto(Road road) {
            end = 0;
            step();
            for (int statements = 1; statements <= MOST_BYTES; statements++) {
                if (!readStatement(road)) {
                    return FAULTS_FROM - start;
                }
                step();
                if (sort == END) {
                    return statements;
                }
                if (sort != SEMICOLON) {
                    return FAULTS_FROM - start;
                }
                step();
            }
            return FAULTS_FROM - start;
        }

        /** From the TOKEN in hand on to the last of the STATEMENT, or to the first that can't stand there. */
        private boolean readStatement(Road road) {
            int statement = sort == WORD ? statementOf() : NONE;
            if (statement == NONE || !road.hasRoomFor(statement)) {
                return false;
            }
            for (int i = 0; i < Road.numbersOf(statement) && i < numbers.length; i++) {
                step();
                if (sort != NUMBER || end - start > MOST_DIGITS || !road.takes(statement, i, valueOf())) {
                    return false;
                }
                numbers[i] = valueOf();
            }
            carryOut(road, statement);
            return true;
        }

        private void carryOut(Road road, int statement) {
            switch (statement) {
                case Road.BEND:
                    road.addBend(numbers[0], numbers[1], numbers[2], numbers[3]);
                    break;
                case Road.SEEN:
                    road.addSign(numbers[0], true, numbers[1]);
                    break;
                case Road.GONE:
                    road.addSign(numbers[0], false, numbers[1]);
                    break;
                case Road.CALL:
                    road.addCall(numbers[0], numbers[1], numbers[2]);
                    break;
                case Road.LOOK:
                    // Looks count from 1 elsewhere, their WAYS from 0 here.
                    road.lookInVain(numbers[0], numbers[1] + 1);
                    break;
                default:
                    road.settle(statement - Road.PACE, numbers[0]);
                    break;
            }
        }

        /** On to the next TOKEN; at the end of THE TAPE that is END, with its size as the place. */
        private void step() {
            start = end;
            while (start < size && byteAt(start) == ' ') {
                start++;
            }
            sort = sortOf(byteAt(start));
            end = start;
            if (sort == WORD || sort == NUMBER) {
                while (end < size && sortOf(byteAt(end)) == sort) {
                    end++;
                }
            } else if (sort != END) {
                end++;
            }
        }

        /** NONE behind the last. */
        private int byteAt(int place) {
            return place >= 0 && place < size && place < bytes.length ? bytes[place] : NONE;
        }

        private static int sortOf(int letter) {
            if (letter == NONE) {
                return END;
            }
            if (letter >= 'a' && letter <= 'z') {
                return WORD;
            }
            if (letter >= '0' && letter <= '9') {
                return NUMBER;
            }
            return letter == ';' ? SEMICOLON : STRANGE;
        }

        /** Of a NUMBER of few digits. */
        private int valueOf() {
            int value = 0;
            for (int i = start; i < end; i++) {
                value = 10 * value + byteAt(i) - '0';
            }
            return value;
        }

        private int statementOf() {
            if (isWord("bend")) {
                return Road.BEND;
            }
            if (isWord("pace")) {
                return Road.PACE;
            }
            if (isWord("wet")) {
                return Road.WET;
            }
            if (isWord("grip")) {
                return Road.GRIP;
            }
            if (isWord("seen")) {
                return Road.SEEN;
            }
            if (isWord("gone")) {
                return Road.GONE;
            }
            if (isWord("call")) {
                return Road.CALL;
            }
            return isWord("look") ? Road.LOOK : NONE;
        }

        private boolean isWord(String word) {
            if (end - start != word.length()) {
                return false;
            }
            for (int i = 0; i < word.length(); i++) {
                if (byteAt(start + i) != word.charAt(i)) {
                    return false;
                }
            }
            return true;
        }
    }

    /** What a SHELF holds. */
    private static final class Shelf {
        static final int BYTES = 0;
        static final int SHORTS = 1;
        static final int INTS = 2;
        static final int LONGS = 3;
        static final int BOOLEANS = 4;

        /** NONE for NOTHING, the SORT of a ROW, or BENDS_FROM and the number of a BEND. */
        int holding;
        int size;
        final long[] elements;

        Shelf() {
            holding = NONE;
            elements = new long[MOST_ELEMENTS];
        }

        boolean isEmpty() {
            return holding == NONE;
        }

        boolean isRow() {
            return holding >= BYTES && holding <= BOOLEANS;
        }

        boolean isBend() {
            return holding >= BENDS_FROM;
        }

        int bendNumber() {
            return isBend() ? holding - BENDS_FROM : NONE;
        }

        void takeRow(int sort, int n) {
            holding = sort;
            size = n;
            for (int i = 0; i < elements.length; i++) {
                elements[i] = 0;
            }
        }

        void takeBend(int bend) {
            holding = bend == NONE ? NONE : BENDS_FROM + bend;
        }

        boolean hasElement(int i) {
            return isRow() && i >= 0 && i < size;
        }

        /** Whether n elements from place i on are all there; none are at any place up to behind the last. */
        boolean hasElements(int i, int n) {
            return isRow() && i >= 0 && n >= 0 && i <= size && n <= size - i;
        }

        long elementAt(int i) {
            return hasElement(i) && i < elements.length ? elements[i] : 0;
        }

        void putElement(int i, long v) {
            if (hasElement(i) && i < elements.length) {
                elements[i] = keptOf(v);
            }
        }

        void takeElements(Shelf from, int i, int j, int n) {
            if (from.hasElements(i, n) && hasElements(j, n)) {
                System.arraycopy(from.elements, i, elements, j, n);
            }
        }

        /** How a told ROW of n elements is refused, or 0. */
        int refusalOfTold(int n) {
            if (!isWithin(n, 0, MOST_ELEMENTS)) {
                return BAD;
            }
            if (!isRow()) {
                return isEmpty() ? NOTHING : OTHER;
            }
            return n > size ? BAD : 0;
        }

        private long keptOf(long v) {
            switch (holding) {
                case BYTES:
                    return (byte) v;
                case SHORTS:
                    return (short) v;
                case INTS:
                    return (int) v;
                case BOOLEANS:
                    return v == 0 ? 0 : 1;
                default:
                    return v;
            }
        }
    }
}

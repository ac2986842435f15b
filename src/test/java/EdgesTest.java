import java.util.function.Supplier;

/**
 * The least and the most that each number of a call may be, and those just outside, on ways of one BEND, of some and
 * of as many as can be. What a call takes isn't BAD, what it doesn't take is, and that changes nothing.
 */
public final class EdgesTest {
    private static final int MIN = Integer.MIN_VALUE;
    private static final int MAX = Integer.MAX_VALUE;

    private interface Made {
        long call(Roof x, int[] a);
    }

    private final int bends;
    private final int last;

    private EdgesTest(int bends) {
        this.bends = bends;
        this.last = bends - 1;
    }

    public static void main(String[] args) {
        int[] sizes = {1, 3, 13, 14};
        for (int bends : sizes) {
            EdgesTest test = new EdgesTest(bends);
            test.shelves();
            test.theWay();
            test.whereItFalls();
            test.looks();
            test.howOneDrives();
            test.callsAndRows();
            test.inTruth();
        }
        copies();
        betweens();
        Check.end();
    }

    private Roof way() {
        Roof x = new Roof();
        for (int i = 0; i < bends; i++) {
            x.bend(i % 6, 9 - i % 10, 10 + i, 10 * i);
        }
        x.sign(0, true, 10);
        x.sign(last, false, 10);
        x.call(0, 1, 10);
        x.call(last, 2, 20);
        return x;
    }

    /** Every SHELF holds a ROW of as many as can be, each element the same. */
    private Roof rows(int element) {
        Roof x = way();
        for (int s = 0; s < 8; s++) {
            x.row(s, s % 5, 40);
            for (int i = 0; i < 40; i++) {
                x.set(s, i, element);
            }
        }
        return x;
    }

    private Roof shown() {
        Roof x = way();
        for (int s = 0; s < 8; s++) {
            x.show(s, last);
        }
        return x;
    }

    private Roof withoutTheLast() {
        return bends == 14 ? new EdgesTest(13).way() : way();
    }

    private void shelves() {
        edges("row", this::way, (x, a) -> x.row(a[0], a[1], a[2]), r(0, 7), r(0, 4), r(0, 40));
        edges("set", () -> rows(0), (x, a) -> x.set(a[0], a[1], 1), r(0, 7), r(0, 39));
        edges("show", this::way, (x, a) -> x.show(a[0], a[1]), r(0, 7), r(-1, last));
        edges("says", this::shown, (x, a) -> x.says(a[0], a[1]), r(0, 7), r(0, 5));
    }

    private void theWay() {
        edges("bend", this::withoutTheLast, (x, a) -> x.bend(a[0], a[1], a[2], a[3]), r(0, 5), r(0, 9), r(1, 999),
                r(0, 1000));
        edges("ask", this::way, (x, a) -> x.ask(a[0], 1), r(0, 2));
        edges("ask PACE", this::way, (x, a) -> x.ask(0, a[0]), r(1, 9));
        edges("ask WET", this::way, (x, a) -> x.ask(1, a[0]), r(0, 1));
        edges("ask GRIP", this::way, (x, a) -> x.ask(2, a[0]), r(0, 10));
        edges("sign IS 1", this::way, (x, a) -> x.sign(a[0], true, a[1]), r(0, last), r(0, 100));
        edges("sign IS 0", this::way, (x, a) -> x.sign(a[0], false, a[1]), r(0, last), r(0, 100));
        edges("feed", this::way, (x, a) -> x.feed(a[0]), r(0, 255));
        edges("bendOf", this::way, (x, a) -> x.bendOf(a[0], a[1]), r(0, last), r(0, 6));
        edges("signOf", this::way, (x, a) -> x.signOf(a[0], a[1]), r(0, 1), r(0, 2));
    }

    private void whereItFalls() {
        edges("fall", this::way, (x, a) -> x.fall(a[0], a[1]), r(0, last), r(1, 9));
        edges("fell", this::way, (x, a) -> x.fell(a[0], a[1]), r(-1, last), r(1, 9));
        edges("weight", this::way, (x, a) -> x.weight(a[0]), r(-1, last));
        edges("likely", this::way, (x, a) -> x.likely(a[0]), r(-1, last));
        edges("few", this::way, (x, a) -> x.few(a[0]), r(0, 1000));
        edges("after IS 1", this::way, (x, a) -> x.after(a[0], true, a[1]), r(0, last), r(0, 100));
        edges("after IS 0", this::way, (x, a) -> x.after(a[0], false, a[1]), r(0, last), r(0, 100));
    }

    private void looks() {
        edges("seconds", this::way, (x, a) -> x.seconds(a[0], a[1]), r(0, last), r(1, 3));
        edges("found", this::way, (x, a) -> x.found(a[0], a[1]), r(0, last), r(1, 3));
        edges("best", this::way, (x, a) -> x.best(a[0], a[1]), r(0, 9000), r(-1, last));
        edges("soonest", this::way, (x, a) -> x.soonest(a[0]), r(0, 1000000));
        edges("order", this::way, (x, a) -> x.order(a[0]), r(0, 40));
        edges("vain", this::way, (x, a) -> x.vain(a[0]), r(0, 40));
        edges("others", this::way, (x, a) -> x.others(a[0]), r(0, 300));
    }

    private void howOneDrives() {
        edges("fast", this::way, (x, a) -> x.fast(a[0]), r(0, 1000000));
        edges("drove", this::way, (x, a) -> x.drove(a[0]), r(0, last));
        edges("gripFor", this::way, (x, a) -> x.gripFor(a[0]), r(0, 1000000));
        edges("slows", this::way, (x, a) -> x.slows(a[0]), r(0, 3));
        edges("without", this::way, (x, a) -> x.without(a[0]), r(0, last));
        edges("once", this::way, (x, a) -> x.once(a[0]), r(0, 999));
        edges("until", this::way, (x, a) -> x.until(a[0]), r(0, 1000000));
        edgesAs(-10000002, "worth", this::way, (x, a) -> x.worth(a[0], a[1], a[2]), r(0, 999), r(0, 999), r(0, 9999));
    }

    private void callsAndRows() {
        edges("call", this::way, (x, a) -> x.call(a[0], a[1], a[2]), r(0, last), r(1, 99), r(0, 100));
        edges("callOf", this::way, (x, a) -> x.callOf(a[0], a[1]), r(0, 1), r(0, 2));
        edges("hears", this::way, (x, a) -> x.hears(a[0]), r(0, 1));
        edges("rings", this::way, (x, a) -> x.rings(a[0]), r(0, 999));
        edges("judge", () -> rows(0), (x, a) -> x.judge(a[0], a[1]), r(0, 7), r(0, 40));
        edges("apart", () -> rows(0), (x, a) -> x.apart(a[0], a[1]), r(0, 7), r(0, 40));
        edges("search", () -> rows(1), (x, a) -> x.search(a[0], a[1], a[2]), r(0, 7), r(0, 40), r(0, 1));
    }

    private void inTruth() {
        edges("lies", this::way, (x, a) -> x.lies(a[0]), r(-1, last));
        edges("look", this::way, (x, a) -> x.look(a[0], a[1]), r(0, last), r(1, 3));
        edges("trips", this::way, (x, a) -> x.trips(a[0]), r(1, 99));
    }

    private static int[] r(int least, int most) {
        return new int[] {least, most};
    }

    private void edges(String call, Supplier<Roof> state, Made made, int[]... ranges) {
        edgesAs(-2, call, state, made, ranges);
    }

    private void edgesAs(int bad, String call, Supplier<Roof> state, Made made, int[]... ranges) {
        String name = call + " on " + bends + ": ";
        for (int corner = 0; corner < 1 << ranges.length; corner++) {
            int[] a = new int[ranges.length];
            for (int p = 0; p < a.length; p++) {
                a[p] = ranges[p][corner >> p & 1];
            }
            taken(name, state.get(), made, bad, a);
            for (int p = 0; p < a.length; p++) {
                int[] outside = {ranges[p][0] - 1, ranges[p][1] + 1, MIN, MAX};
                for (int v : outside) {
                    int[] wrong = a.clone();
                    wrong[p] = v;
                    Roof x = state.get();
                    Check.refusedAs(x, -2, bad, name + told(wrong), () -> made.call(x, wrong));
                }
            }
        }
    }

    private static void taken(String name, Roof x, Made made, int bad, int[] a) {
        Check.that(name + told(a) + " isn't BAD", made.call(x, a) != bad);
        Check.due(name + told(a) + ", BAD", x.status(12), 0);
    }

    private static String told(int[] a) {
        return java.util.Arrays.toString(a);
    }

    /** How many elements may be copied from and to each place: as many as there are behind both. */
    private static void copies() {
        for (int i = -1; i <= 4; i++) {
            for (int j = -1; j <= 6; j++) {
                for (int n = -1; n <= 6; n++) {
                    Roof x = new Roof();
                    Ways.tell(x, 6, 1, 2, 3);
                    Ways.tell(x, 7, 4, 5, 6, 7, 8);
                    int from = i;
                    int to = j;
                    int count = n;
                    String call = "copy " + i + " " + j + " " + n;
                    if (i >= 0 && j >= 0 && n >= 0 && i + n <= 3 && j + n <= 5) {
                        Check.due(call, x.copy(6, 7, i, j, n), n);
                        for (int k = 0; k < 5; k++) {
                            Check.due(call + ", " + k, x.element(7, k), k >= j && k < j + n ? k - j + i + 1 : k + 4);
                        }
                    } else {
                        Check.refused(x, -2, call, () -> x.copy(6, 7, from, to, count));
                    }
                }
            }
        }
        Roof full = new Roof();
        full.row(0, 0, 40);
        full.row(7, 0, 40);
        full.row(3, 0, 0);
        full.row(4, 0, 0);
        full.set(0, 0, 1);
        full.set(0, 39, 2);
        Check.due("copy a full ROW", full.copy(0, 7, 0, 0, 40), 40);
        Check.due("its first", full.element(7, 0), 1);
        Check.due("its last", full.element(7, 39), 2);
        Check.due("copy the last", full.copy(0, 7, 39, 39, 1), 1);
        Check.due("copy a full ROW to itself", full.copy(0, 0, 0, 0, 40), 40);
        Check.due("copy an empty ROW", full.copy(3, 4, 0, 0, 0), 0);
        Check.due("copy an empty ROW to itself", full.copy(3, 3, 0, 0, 0), 0);
        Check.refused(full, -2, "copy 41", () -> full.copy(0, 7, 0, 0, 41));
        Check.refused(full, -2, "copy 40 from place 1", () -> full.copy(0, 7, 1, 0, 40));
        Check.refused(full, -2, "copy 40 to place 1", () -> full.copy(0, 7, 0, 1, 40));
        Check.refused(full, -2, "copy one of an empty ROW", () -> full.copy(3, 0, 0, 0, 1));
        Check.refused(full, -2, "copy one to an empty ROW", () -> full.copy(0, 3, 0, 0, 1));
        Check.refused(full, -2, "copy from SHELF -1", () -> full.copy(-1, 7, 0, 0, 0));
        Check.refused(full, -2, "copy from SHELF 8", () -> full.copy(8, 7, 0, 0, 0));
        Check.refused(full, -2, "copy to SHELF -1", () -> full.copy(0, -1, 0, 0, 0));
        Check.refused(full, -2, "copy to SHELF 8", () -> full.copy(0, 8, 0, 0, 0));
    }

    /** From one to another that isn't ahead of it. */
    private static void betweens() {
        Roof x = Ways.even(14, 1);
        for (int bend = -1; bend <= 14; bend++) {
            for (int other = -1; other <= 14; other++) {
                int from = bend;
                int to = other;
                if (bend >= 0 && other >= bend && other <= 13) {
                    Check.that("between " + from + " " + to, x.between(from, to) > 0);
                } else {
                    Check.refused(x, -2, "between " + from + " " + to, () -> x.between(from, to));
                }
            }
        }
    }
}

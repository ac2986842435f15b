import java.util.Arrays;
import java.util.function.LongSupplier;

/** Where several refusals fit one call, the first of its line is the answer; and what is refused changes nothing. */
public final class OrderTest {
    public static void main(String[] args) {
        badAheadOfFull();
        badAheadOfFullAheadOfStuck();
        badAheadOfStuck();
        sets();
        copies();
        says();
        judges();
        aparts();
        searches();
        onlyStuck();
        tapeAndImageStay();
        eachIsCounted();
        Check.end();
    }

    private static void badAheadOfFull() {
        Roof x = full();
        Check.refused(x, -6, "bend, FULL", () -> x.bend(0, 0, 1, 0));
        Check.refused(x, -6, "bend of the most, FULL", () -> x.bend(5, 9, 999, 1000));
        Check.refused(x, -2, "bend, BAD KIND and FULL", () -> x.bend(6, 0, 1, 0));
        Check.refused(x, -2, "bend, BAD a and FULL", () -> x.bend(0, 10, 1, 0));
        Check.refused(x, -2, "bend, BAD YARDS and FULL", () -> x.bend(0, 0, 0, 0));
        Check.refused(x, -2, "bend, BAD PEOPLE and FULL", () -> x.bend(0, 0, 1, 1001));
        Check.refused(x, -6, "sign, FULL", () -> x.sign(13, true, 100));
        Check.refused(x, -2, "sign, BAD BEND and FULL", () -> x.sign(14, true, 100));
        Check.refused(x, -2, "sign, BAD SURE and FULL", () -> x.sign(13, false, 101));
        Check.refused(x, -6, "call, FULL", () -> x.call(13, 99, 100));
        Check.refused(x, -2, "call, BAD BEND and FULL", () -> x.call(14, 99, 100));
        Check.refused(x, -2, "call, BAD MINUTES and FULL", () -> x.call(13, 100, 100));
        Check.refused(x, -2, "call, BAD KNOWS and FULL", () -> x.call(13, 99, 101));
        Check.refused(x, -6, "feed, FULL", () -> x.feed(255));
        Check.refused(x, -2, "feed, BAD and FULL", () -> x.feed(256));
    }

    private static void badAheadOfFullAheadOfStuck() {
        Roof x = full();
        Check.due("all WEIGHTS", x.status(7), 0);
        Check.refused(x, -6, "after, FULL and STUCK", () -> x.after(13, true, 100));
        Check.refused(x, -2, "after, BAD BEND, FULL and STUCK", () -> x.after(14, true, 100));
        Check.refused(x, -2, "after, BAD BEND NONE, FULL and STUCK", () -> x.after(-1, true, 100));
        Check.refused(x, -2, "after, BAD SURE, FULL and STUCK", () -> x.after(13, true, 101));
        Roof y = stuck();
        Check.refused(y, -5, "after, STUCK", () -> y.after(2, true, 100));
        Check.refused(y, -2, "after, BAD BEND and STUCK", () -> y.after(3, true, 100));
        Check.refused(y, -2, "after, BAD SURE and STUCK", () -> y.after(2, true, -1));
        Roof z = Ways.threeFallen();
        Check.refused(z, -5, "after, STUCK by the SIGN more", () -> z.after(2, true, 100));
        Check.due("after, not STUCK by one at a BEND ahead", z.after(1, true, 100), 0);
    }

    private static void badAheadOfStuck() {
        Roof x = stuck();
        int[] all = {-1, 0, 2};
        for (int bend : all) {
            Check.refused(x, -5, "likely, STUCK", () -> x.likely(bend));
        }
        Check.refused(x, -2, "likely, BAD and STUCK", () -> x.likely(3));
        Check.refused(x, -2, "likely, BAD and STUCK", () -> x.likely(-2));
        Check.refused(x, -5, "between, STUCK", () -> x.between(0, 2));
        Check.refused(x, -2, "between, the other way and STUCK", () -> x.between(1, 0));
        Check.refused(x, -2, "between, BAD and STUCK", () -> x.between(0, 3));
        Check.refused(x, -2, "between, BAD and STUCK", () -> x.between(-1, 0));
    }

    private static void sets() {
        Roof x = shelves();
        Check.refused(x, -2, "set, BAD SHELF and i", () -> x.set(8, 40, 1));
        Check.refused(x, -3, "set, OTHER and BAD i", () -> x.set(1, 40, 1));
        Check.refused(x, -3, "set, OTHER", () -> x.set(1, 0, 1));
        Check.refused(x, -4, "set, NOTHING and BAD i", () -> x.set(2, 40, 1));
        Check.refused(x, -4, "set, NOTHING", () -> x.set(2, 0, 1));
        Check.refused(x, -2, "set, BAD i", () -> x.set(0, 2, 1));
    }

    private static void copies() {
        Roof x = shelves();
        int[][] bad = {{8, 1}, {1, 8}, {8, 2}, {2, -1}, {8, 0}, {0, 8}, {-1, -1}};
        for (int[] s : bad) {
            Check.refused(x, -2, "copy, BAD SHELF and whatever" + Arrays.toString(s), () -> x.copy(s[0], s[1], 9, 9, 9));
        }
        int[][] other = {{1, 0}, {0, 1}, {1, 1}, {1, 2}, {2, 1}, {0, 3}, {3, 0}};
        for (int[] s : other) {
            Check.refused(x, -3, "copy, OTHER" + Arrays.toString(s), () -> x.copy(s[0], s[1], 0, 0, 1));
            Check.refused(x, -3, "copy, OTHER and BAD" + Arrays.toString(s), () -> x.copy(s[0], s[1], 9, -9, 9));
        }
        int[][] nothing = {{2, 0}, {0, 2}, {2, 2}, {4, 2}, {3, 2}, {2, 3}};
        for (int[] s : nothing) {
            Check.refused(x, -4, "copy, NOTHING" + Arrays.toString(s), () -> x.copy(s[0], s[1], 0, 0, 0));
            Check.refused(x, -4, "copy, NOTHING and BAD" + Arrays.toString(s), () -> x.copy(s[0], s[1], 9, -9, 9));
        }
        Check.refused(x, -2, "copy, BAD n", () -> x.copy(0, 0, 0, 0, 3));
        for (int sort = 0; sort <= 4; sort++) {
            for (int of = 0; of <= 4; of++) {
                Roof y = new Roof();
                y.row(0, sort, 1);
                y.row(1, of, 1);
                if (sort == of) {
                    Check.due("copy between two of SORT " + sort, y.copy(0, 1, 0, 0, 1), 1);
                } else {
                    Check.refused(y, -3, "copy from SORT " + sort + " to " + of, () -> y.copy(0, 1, 0, 0, 1));
                    Check.refused(y, -3, "copy none from SORT " + sort + " to " + of, () -> y.copy(0, 1, 0, 0, 0));
                }
            }
        }
    }

    private static void says() {
        Roof x = shelves();
        Check.refused(x, -2, "says, BAD SHELF and KIND", () -> x.says(8, 6));
        Check.refused(x, -2, "says, BAD KIND and a ROW", () -> x.says(0, 6));
        Check.refused(x, -2, "says, BAD KIND and a BEND", () -> x.says(1, -1));
        Check.refused(x, -2, "says, BAD KIND and NOTHING", () -> x.says(2, 6));
        Check.refused(x, -3, "says, a ROW", () -> x.says(0, 0));
        Check.refused(x, -3, "says, of no such KIND", () -> x.says(1, 1));
        Check.refused(x, -4, "says, NOTHING", () -> x.says(2, 5));
    }

    private interface Told {
        long call(Roof x, int s, int n);
    }

    /** What judge(), apart() and search() have in common: BAD SHELF, n; OTHER; NOTHING; BAD: fewer elements. */
    private static void told(String call, Told made) {
        Roof x = shelves();
        int[][] bad = {{8, 0}, {-1, 0}, {8, 41}, {0, 41}, {1, 41}, {2, 41}, {0, -1}, {1, -1}, {2, -1}};
        for (int[] b : bad) {
            Check.refused(x, -2, call + ", BAD, whatever the SHELF holds", () -> made.call(x, b[0], b[1]));
        }
        Check.refused(x, -3, call + ", OTHER", () -> made.call(x, 1, 0));
        Check.refused(x, -3, call + ", OTHER and fewer elements", () -> made.call(x, 1, 40));
        Check.refused(x, -4, call + ", NOTHING", () -> made.call(x, 2, 0));
        Check.refused(x, -4, call + ", NOTHING and fewer elements", () -> made.call(x, 2, 40));
        Check.refused(x, -2, call + ", fewer elements, and WRONG or STUCK", () -> made.call(x, 0, 3));
    }

    private static void judges() {
        told("judge", (x, s, n) -> x.judge(s, n));
        Roof x = shelves();
        Check.due("judge, as many elements", x.judge(0, 2), 1);
        Check.due("that isn't refused", x.status(12) + x.status(15), 0);
    }

    private static void aparts() {
        told("apart", (x, s, n) -> x.apart(s, n));
        Roof x = shelves();
        Check.refused(x, -5, "apart, WRONG", () -> x.apart(0, 2));
        Check.due("apart, not WRONG yet", x.apart(0, 1), 0);
    }

    private static void searches() {
        told("search, SECONDS", (x, s, n) -> x.search(s, n, 0));
        told("search, FOUND", (x, s, n) -> x.search(s, n, 1));
        Roof x = shelves();
        int[][] bad = {{0, 0, 2}, {0, 0, -1}, {1, 0, 2}, {2, 0, 2}, {0, 2, 2}, {0, 3, 2}, {1, 41, 2}, {8, 41, 2}};
        for (int[] b : bad) {
            Check.refused(x, -2, "search, BAD what", () -> x.search(b[0], b[1], b[2]));
        }
        Check.refused(x, -5, "search, STUCK", () -> x.search(0, 2, 0));
        Check.refused(x, -5, "search, STUCK", () -> x.search(0, 2, 1));
        Check.due("search, not STUCK yet", x.search(0, 1, 0), 11);
    }

    private static void onlyStuck() {
        Roof x = new Roof();
        Check.refused(x, -5, "asks without BENDS", x::asks);
        Check.refused(x, -5, "where without BENDS", x::where);
        Check.refused(x, -5, "worst without BENDS", x::worst);
        Check.refused(x, -5, "back without an image", x::back);
        Roof one = stuck();
        Check.due("asks with BENDS, all WEIGHTS 0", one.asks(), 0);
        Check.due("where with BENDS, all WEIGHTS 0", one.where(), 0);
        Check.due("worst with BENDS, all WEIGHTS 0", one.worst(), 0);
        Check.due("nothing was refused", one.status(15), 0);
    }

    /** What the calls that ask nothing can't tell: THE TAPE's bytes, how long ROWS are, and what is kept. */
    private static void tapeAndImageStay() {
        Roof x = Ways.three();
        x.row(0, 2, 3);
        x.image();
        x.bend(0, 1, 1, 1);
        Ways.feedAll(x, "pace 7");
        LongSupplier[] refused = {() -> x.feed(256), () -> x.row(0, 2, 41), () -> x.row(0, 5, 1), () -> x.show(0, 4),
            () -> x.set(0, 3, 1), () -> x.copy(0, 0, 1, 0, 3), () -> x.lies(4), () -> x.bend(6, 0, 1, 0),
            () -> x.likely(4), () -> x.trips(0), () -> x.look(4, 1), () -> x.ask(0, 10), () -> x.worth(-1, 0, 0)};
        for (LongSupplier call : refused) {
            Check.that("it is refused", call.getAsLong() < -1);
        }
        Check.due("a ROW of three yet", x.judge(0, 3), -1);
        Check.due("not of four", x.judge(0, 4), -2);
        Check.due("THE TAPE yet", x.way(), 1);
        Check.due("what it came to", x.status(2), 7);
        Check.due("back", x.back(), 1);
        Check.due("BENDS that were kept", x.status(0), 3);
        Check.due("PACE that was kept", x.status(2), 3);
    }

    private static void eachIsCounted() {
        Roof x = shelves();
        for (int i = 1; i <= 99; i++) {
            x.worth(0, 0, -1);
            x.set(1, 0, 0);
            x.set(2, 0, 0);
            x.back();
            Check.due("way of nothing", x.way(), -20);
        }
        int[] due = {198, 99, 99, 99, 0};
        for (int i = 0; i < 5; i++) {
            Check.due("refusals " + (-2 - i), x.status(12 + i), due[i]);
        }
        Roof y = full();
        for (int i = 0; i < 200; i++) {
            y.feed(1);
        }
        int[] then = {0, 0, 0, 0, 200};
        for (int i = 0; i < 5; i++) {
            Check.due("refusals " + (-2 - i), y.status(12 + i), then[i]);
        }
    }

    /** As many BENDS, SIGNS, CALLS and bytes as can be; all WEIGHTS are 0. */
    private static Roof full() {
        Roof x = Ways.even(14, 5);
        x.sign(13, true, 100);
        for (int i = 1; i < 8; i++) {
            x.sign(13, false, 100);
        }
        for (int i = 0; i < 6; i++) {
            x.call(13, 1, 1);
        }
        for (int i = 0; i < 250; i++) {
            x.feed(0);
        }
        return x;
    }

    /** Three BENDS; all WEIGHTS are 0. */
    private static Roof stuck() {
        Roof x = Ways.threeFallen();
        x.sign(2, true, 100);
        return x;
    }

    /** SHELF 0 holds two ints, 1 and 0, which are no pieces and no looks; 1 a BEND, 2 NOTHING, 3 a ROW of longs. */
    private static Roof shelves() {
        Roof x = Ways.three();
        Ways.tell(x, 0, 1, 0);
        x.show(1, 0);
        x.row(3, 3, 2);
        return x;
    }
}

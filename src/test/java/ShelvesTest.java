/** Promises 2 to 8, and what back() does to SHELVES. */
public final class ShelvesTest {
    private static final int MIN = Integer.MIN_VALUE;
    private static final int MAX = Integer.MAX_VALUE;

    public static void main(String[] args) {
        rows();
        sets();
        keepsLowestBits();
        copies();
        copiesWithinOne();
        copyRefusals();
        elementsAndHolds();
        shows();
        says();
        saysRefusals();
        Check.end();
    }

    private static void rows() {
        Roof x = Ways.three();
        for (int sort = 0; sort <= 4; sort++) {
            Check.due("row(" + sort + ")", x.row(sort, sort, 3), 1);
            Check.due("holds", x.holds(sort), sort);
            Check.due("element at first", x.element(sort, 2), 0);
        }
        Check.due("row of none", x.row(7, 0, 0), 1);
        Check.due("row of 40", x.row(6, 3, 40), 1);
        for (int i = 0; i < 40; i++) {
            Check.due("any element", x.set(6, i, 5), 1);
        }
        Check.due("the same SHELF again", x.row(6, 3, 40), 1);
        for (int i = 0; i < 40; i++) {
            Check.due("a new ROW is of 0", x.element(6, i), 0);
        }
        x.show(5, 2);
        Check.due("a ROW where a BEND was", x.row(5, 1, 1), 1);
        Check.due("holds", x.holds(5), 1);
        int[] wrong = {-1, MIN, MAX};
        for (int v : wrong) {
            Check.refused(x, -2, "row SHELF", () -> x.row(v, 0, 1));
            Check.refused(x, -2, "row SORT", () -> x.row(0, v, 1));
            Check.refused(x, -2, "row n", () -> x.row(0, 0, v));
        }
        Check.refused(x, -2, "row SHELF 8", () -> x.row(8, 0, 1));
        Check.refused(x, -2, "row SORT 5", () -> x.row(0, 5, 1));
        Check.refused(x, -2, "row n 41", () -> x.row(0, 0, 41));
    }

    private static void sets() {
        Roof x = Ways.three();
        x.row(0, 2, 3);
        x.show(1, 0);
        Check.due("set", x.set(0, 2, -7), 1);
        Check.due("element", x.element(0, 2), -7);
        Check.due("another element", x.element(0, 1), 0);
        Check.refused(x, -2, "set SHELF -1", () -> x.set(-1, 0, 1));
        Check.refused(x, -2, "set SHELF 8", () -> x.set(8, 0, 1));
        Check.refused(x, -3, "set on a BEND", () -> x.set(1, 99, 1));
        Check.refused(x, -4, "set on NOTHING", () -> x.set(2, 99, 1));
        Check.refused(x, -2, "set i 3", () -> x.set(0, 3, 1));
        Check.refused(x, -2, "set i -1", () -> x.set(0, -1, 1));
        Check.refused(x, -2, "set i MIN", () -> x.set(0, MIN, 1));
        Check.refused(x, -2, "set i MAX", () -> x.set(0, MAX, 1));
    }

    private static void keepsLowestBits() {
        Roof x = new Roof();
        long v = 0x123456789ABCDEF0L;
        long[] due = {(byte) 0xF0, (short) 0xDEF0, 0x9ABCDEF0, v, 1};
        for (int sort = 0; sort <= 4; sort++) {
            x.row(0, sort, 2);
            x.set(0, 1, v);
            Check.due("set in SORT " + sort, x.element(0, 1), due[sort]);
            x.set(0, 1, 0);
            Check.due("set 0 in SORT " + sort, x.element(0, 1), 0);
            x.set(0, 1, -1);
            Check.due("set -1 in SORT " + sort, x.element(0, 1), sort == 4 ? 1 : -1);
            x.set(0, 1, Long.MIN_VALUE);
            Check.due("set MIN in SORT " + sort, x.element(0, 1), sort == 4 ? 1 : sort == 3 ? Long.MIN_VALUE : 0);
        }
    }

    private static void copies() {
        Roof x = new Roof();
        Ways.tell(x, 0, 1, 2, 3, 4, 5);
        x.row(1, 2, 4);
        Check.due("copy", x.copy(0, 1, 2, 1, 3), 3);
        long[] due = {0, 3, 4, 5};
        for (int i = 0; i < 4; i++) {
            Check.due("copied " + i, x.element(1, i), due[i]);
        }
        Check.due("copy none, from behind the last", x.copy(0, 1, 5, 4, 0), 0);
        Check.due("copy all", x.copy(1, 0, 0, 0, 4), 4);
        Check.due("the one behind stays", x.element(0, 4), 5);
        Check.due("the first is copied", x.element(0, 0), 0);
    }

    private static void copiesWithinOne() {
        Roof x = new Roof();
        Ways.tell(x, 3, 1, 2, 3, 4, 5);
        Check.due("copy up", x.copy(3, 3, 0, 1, 4), 4);
        int[] up = {1, 1, 2, 3, 4};
        for (int i = 0; i < 5; i++) {
            Check.due("copied up " + i, x.element(3, i), up[i]);
        }
        Check.due("copy down", x.copy(3, 3, 2, 0, 3), 3);
        int[] down = {2, 3, 4, 3, 4};
        for (int i = 0; i < 5; i++) {
            Check.due("copied down " + i, x.element(3, i), down[i]);
        }
    }

    private static void copyRefusals() {
        Roof x = Ways.three();
        Ways.tell(x, 0, 1, 2, 3);
        Ways.tell(x, 1, 4, 5);
        x.row(2, 3, 3);
        x.show(3, 0);
        Check.refused(x, -2, "copy from SHELF 8", () -> x.copy(8, 3, 0, 0, 1));
        Check.refused(x, -2, "copy to SHELF -1", () -> x.copy(3, -1, 0, 0, 1));
        Check.refused(x, -3, "copy from a BEND", () -> x.copy(3, 0, -1, 0, 1));
        Check.refused(x, -3, "copy to a BEND, from NOTHING", () -> x.copy(5, 3, 0, 0, 1));
        Check.refused(x, -3, "copy from a BEND to NOTHING", () -> x.copy(3, 5, 0, 0, 1));
        Check.refused(x, -3, "copy between two SORTS", () -> x.copy(0, 2, -1, 0, 1));
        Check.refused(x, -4, "copy from NOTHING", () -> x.copy(5, 0, -1, 0, 1));
        Check.refused(x, -4, "copy to NOTHING", () -> x.copy(0, 5, -1, 0, 1));
        Check.refused(x, -4, "copy from NOTHING to NOTHING", () -> x.copy(6, 5, -1, 0, 1));
        int[][] wrong = {{-1, 0, 1}, {0, -1, 1}, {0, 0, -1}, {3, 0, 1}, {2, 0, 2}, {0, 2, 1}, {0, 1, 2}, {4, 0, 0},
            {0, 3, 0}, {MAX, 0, 1}, {0, MAX, 1}, {1, 0, MAX}, {MAX, MAX, MAX}, {MIN, MIN, MIN}, {1, 1, MIN}};
        for (int[] w : wrong) {
            Check.refused(x, -2, "copy " + w[0] + " " + w[1] + " " + w[2], () -> x.copy(0, 1, w[0], w[1], w[2]));
        }
    }

    private static void elementsAndHolds() {
        Roof x = Ways.three();
        Ways.tell(x, 0, 7);
        x.show(1, 2);
        Check.due("element", x.element(0, 0), 7);
        Check.due("element behind", x.element(0, 1), 0);
        Check.due("element ahead", x.element(0, -1), 0);
        Check.due("element MAX", x.element(0, MAX), 0);
        Check.due("element of a BEND", x.element(1, 0), 0);
        Check.due("element of NOTHING", x.element(2, 0), 0);
        Check.due("element of no SHELF", x.element(8, 0), 0);
        Check.due("element of SHELF MIN", x.element(MIN, 0), 0);
        Check.due("holds a ROW", x.holds(0), 2);
        Check.due("holds a BEND", x.holds(1), 12);
        Check.due("holds NOTHING", x.holds(2), -1);
        Check.due("no SHELF -1", x.holds(-1), -1);
        Check.due("no SHELF 8", x.holds(8), -1);
        Check.due("nothing was refused", x.status(12) + x.status(13) + x.status(14), 0);
        x.row(0, 3, 0);
        Check.due("element of none", x.element(0, 0), 0);
    }

    private static void shows() {
        Roof x = Ways.three();
        Check.due("show", x.show(0, 0), 1);
        Check.due("holds", x.holds(0), 10);
        Check.due("show another", x.show(0, 2), 1);
        Check.due("holds", x.holds(0), 12);
        Check.due("show NONE", x.show(0, -1), 1);
        Check.due("holds NOTHING", x.holds(0), -1);
        x.row(0, 1, 1);
        Check.due("show NONE over a ROW", x.show(0, -1), 1);
        Check.due("holds NOTHING", x.holds(0), -1);
        Check.due("SHELVES that hold something", x.status(10), 0);
        Check.refused(x, -2, "show SHELF 8", () -> x.show(8, 0));
        Check.refused(x, -2, "show SHELF -1", () -> x.show(-1, -1));
        Check.refused(x, -2, "show BEND 3", () -> x.show(0, 3));
        Check.refused(x, -2, "show BEND -2", () -> x.show(0, -2));
    }

    /** By PACE 2, dry: FALL 10, 8, 18, 12 * 2, 38, 9; as a is 5, 2, 4, 4, 4, 9. */
    private static Roof allKinds() {
        Roof x = new Roof();
        x.ask(0, 2);
        x.bend(0, 5, 11, 1);
        x.bend(1, 2, 12, 2);
        x.bend(2, 4, 13, 3);
        x.bend(3, 4, 14, 4);
        x.bend(4, 4, 15, 5);
        x.bend(5, 9, 16, 6);
        for (int i = 0; i < 6; i++) {
            x.show(i, i);
        }
        return x;
    }

    private static void says() {
        Roof x = allKinds();
        for (int i = 0; i < 6; i++) {
            Check.due("as a BEND, YARDS", x.says(i, 0), 11 + i);
        }
        Check.due("SHARP as SHARP", x.says(1, 1), 8);
        Check.due("HAIRPIN as SHARP", x.says(3, 1), 24);
        Check.due("HAIRPIN as HAIRPIN", x.says(3, 3), 24);
        Check.due("ROUGH as ROUGH, by PACE 1", x.says(2, 2), 14);
        Check.due("HILL as ROUGH, by PACE 1", x.says(4, 2), 34);
        Check.due("HILL as HILL", x.says(4, 4), 38);
        Check.due("LIGHTS as LIGHTS", x.says(5, 5), 6);
        x.ask(1, 1);
        x.ask(2, 5);
        Check.due("HILL as ROUGH, WET, GRIP 5", x.says(4, 2), 27);
        Check.due("HAIRPIN as SHARP, WET, GRIP 5", x.says(3, 1), 22);
    }

    private static void saysRefusals() {
        Roof x = allKinds();
        x.row(6, 2, 1);
        Check.refused(x, -2, "says SHELF 8", () -> x.says(8, 0));
        Check.refused(x, -2, "says SHELF -1", () -> x.says(-1, 0));
        Check.refused(x, -2, "says KIND 6", () -> x.says(6, 6));
        Check.refused(x, -2, "says KIND -1", () -> x.says(7, -1));
        Check.refused(x, -3, "says of a ROW", () -> x.says(6, 0));
        Check.refused(x, -4, "says of NOTHING", () -> x.says(7, 0));
        boolean[][] isUnder = {{true, false, false, false, false, false}, {true, true, false, false, false, false},
            {true, false, true, false, false, false}, {true, true, false, true, false, false},
            {true, false, true, false, true, false}, {true, false, false, false, false, true}};
        for (int i = 0; i < 6; i++) {
            for (int kind = 0; kind < 6; kind++) {
                int s = i;
                int as = kind;
                if (isUnder[i][kind]) {
                    Check.that("says " + i + " as " + kind, x.says(i, kind) > 0);
                } else {
                    Check.refused(x, -3, "says " + i + " as " + kind, () -> x.says(s, as));
                }
            }
        }
    }
}

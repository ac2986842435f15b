/** Promises 54 to 61: where it lies, drives and looks in truth, what is kept, and how things stand. */
public final class TruthTest {
    private static final int MIN = Integer.MIN_VALUE;
    private static final int MAX = Integer.MAX_VALUE;

    public static void main(String[] args) {
        lies();
        draws();
        drives();
        driveForgets();
        looks();
        lookRefusals();
        trips();
        seeds();
        keeps();
        keepsNotAll();
        backAndShelves();
        statusOfAll();
        statusOfRefusals();
        Check.end();
    }

    private static void lies() {
        Roof x = Ways.three();
        Check.due("lies(2)", x.lies(2), -1);
        Check.due("lies(NONE)", x.lies(-1), 2);
        Check.due("lies(0)", x.lies(0), -1);
        Check.due("LIES", x.status(6), 0);
        int[] wrong = {-2, 3, MIN, MAX};
        for (int b : wrong) {
            Check.refused(x, -2, "lies(" + b + ")", () -> x.lies(b));
        }
    }

    private static void draws() {
        Roof x = Ways.three();
        int[] due = {1, 1103527590, -1770082073, 662824084, -999580867};
        Check.due("SEED", x.status(9), due[0]);
        x.ask(2, 10);
        Check.due("drive", x.drive(), 0);
        Check.due("a DRAW for each BEND", x.status(9), due[3]);
        x.lies(0);
        Check.due("look elsewhere", x.look(1, 3), 0);
        Check.due("no DRAW", x.status(9), due[3]);
        Check.due("look there, 83 of 100", x.look(0, 3), 1);
        Check.due("one DRAW", x.status(9), due[4]);
    }

    private static void drives() {
        Roof x = Ways.three();
        x.lies(2);
        Check.due("838, 526, 113: it held", x.drive(), 0);
        Check.due("LIES", x.status(6), -1);
        x.seed(0);
        Check.due("0: it fell at 0", x.drive(), 1);
        Check.due("LIES", x.status(6), 0);
        Check.due("no more DRAWS", x.status(9), 12345);
        x.seed(265);
        Check.due("703, 13: it fell at 1", x.drive(), 1);
        Check.due("LIES", x.status(6), 1);
        Check.due("two DRAWS", x.status(9), 1311632687);
        // 14, below a FALL of 15; then at a FALL of 14 it doesn't fall.
        x.seed(275);
        Check.due("14: it fell at 0", x.drive(), 1);
        Roof y = new Roof();
        y.bend(0, 7, 1, 0);
        y.ask(0, 2);
        y.seed(275);
        Check.due("14 isn't below 14", y.drive(), 0);
        y.ask(2, 10);
        y.seed(0);
        Check.due("0 isn't below 0", y.drive(), 0);
        Check.due("without BENDS", new Roof().drive(), 0);
    }

    private static void driveForgets() {
        int[] seeds = {1, 0};
        for (int i = 0; i < seeds.length; i++) {
            Roof x = Ways.three();
            x.sign(0, true, 50);
            x.call(1, 2, 3);
            x.look(1, 2);
            x.seed(seeds[i]);
            Check.due("drive", x.drive(), i);
            Check.due("SIGNS", x.status(1), 0);
            Check.due("BENDS looked at", x.status(11), 0);
            Check.due("CALLS stay", x.status(17), 1);
            Check.due("PACE stays", x.status(2), 3);
        }
    }

    private static void looks() {
        Roof x = Ways.three();
        Check.due("look while it held", x.look(0, 1), 0);
        Check.due("MISS", x.bendOf(0, 4), 70);
        x.look(0, 2);
        Check.due("MISS", x.bendOf(0, 4), 28);
        x.look(0, 3);
        Check.due("MISS", x.bendOf(0, 4), 2);
        Check.due("no DRAW", x.status(9), 1);
        x.lies(1);
        // By SEED 1 the DRAWS below 100 are 38, 26, 13, 83.
        Check.due("38 by DRIVE", x.look(1, 1), 0);
        Check.due("MISS", x.bendOf(1, 4), 70);
        Check.due("26 by DRIVE", x.look(1, 1), 1);
        Check.due("MISS stays", x.bendOf(1, 4), 70);
        Check.due("LIES stays", x.status(6), 1);
        Check.due("13 by SLOW", x.look(1, 2), 1);
        Check.due("83 by SLOW", x.look(1, 2), 0);
        Check.due("MISS", x.bendOf(1, 4), 28);
        x.seed(1);
        Check.due("38 by SLOW", x.look(1, 2), 1);
        x.seed(662824084);
        Check.due("83 on FOOT", x.look(1, 3), 1);
        Check.due("BENDS looked at", x.status(11), 2);
        atTheEdge(1, 30);
        atTheEdge(2, 60);
        atTheEdge(3, 90);
    }

    /** A DRAW of what a WAY sees is in vain, the one below finds. */
    private static void atTheEdge(int look, int sees) {
        Roof x = Ways.three();
        x.lies(0);
        x.seed(seedFor(sees));
        Check.due("a DRAW of " + sees, x.look(0, look), 0);
        x.seed(seedFor(sees - 1));
        Check.due("a DRAW of " + (sees - 1), x.look(0, look), 1);
    }

    private static int seedFor(int draw) {
        for (int seed = 0; seed < 100000; seed++) {
            if ((seed * 1103515245 + 12345 >>> 16) % 100 == draw) {
                return seed;
            }
        }
        throw new IllegalStateException("no seed for " + draw);
    }

    private static void lookRefusals() {
        Roof x = Ways.three();
        x.lies(0);
        int[][] wrong = {{-1, 1}, {3, 1}, {0, 0}, {0, 4}, {MIN, 1}, {MAX, 1}, {0, MIN}, {0, MAX}};
        for (int[] w : wrong) {
            Check.refused(x, -2, "look " + w[0] + " " + w[1], () -> x.look(w[0], w[1]));
        }
    }

    private static void trips() {
        Roof x = Ways.three();
        Roof y = Ways.three();
        x.ask(0, 9);
        y.ask(0, 9);
        x.sign(0, true, 5);
        x.look(0, 1);
        int fallen = 0;
        for (int i = 0; i < 99; i++) {
            fallen += y.drive();
        }
        Check.that("some fell, some held", fallen > 0 && fallen < 99);
        Check.due("trips(99)", x.trips(99), fallen);
        Check.due("SEED", x.status(9), y.status(9));
        Check.due("LIES", x.status(6), y.status(6));
        Check.due("SIGNS", x.status(1), 0);
        Check.due("BENDS looked at", x.status(11), 0);
        Check.due("trips(1)", x.trips(1), y.drive());
        int[] wrong = {0, 100, -1, MIN, MAX};
        for (int n : wrong) {
            Check.refused(x, -2, "trips(" + n + ")", () -> x.trips(n));
        }
        Check.due("without BENDS", new Roof().trips(99), 0);
    }

    private static void seeds() {
        Roof x = new Roof();
        Check.due("seed at first", x.seed(MIN), 1);
        Check.due("seed then", x.seed(MAX), MIN);
        Check.due("SEED", x.status(9), MAX);
        Check.due("seed -1", x.seed(-1), MAX);
        Check.due("seed 0", x.seed(0), -1);
    }

    private static Roof full() {
        Roof x = Ways.three();
        x.ask(0, 4);
        x.ask(1, 1);
        x.ask(2, 5);
        x.sign(1, true, 40);
        x.call(2, 3, 4);
        x.look(0, 1);
        x.lies(2);
        x.seed(99);
        return x;
    }

    private static void change(Roof x) {
        x.anew();
        x.bend(0, 9, 9, 9);
        x.ask(0, 1);
        x.ask(1, 0);
        x.ask(2, 0);
        x.sign(3, false, 4);
        x.sign(2, false, 4);
        x.call(0, 9, 9);
        x.look(2, 2);
        x.lies(3);
        x.seed(7);
    }

    private static void keeps() {
        Roof x = full();
        Check.refused(x, -5, "back to nothing", x::back);
        String before = Ways.picture(x);
        Check.due("image", x.image(), 1);
        Check.that("image changes nothing", before.equals(Ways.picture(x)));
        for (int i = 0; i < 2; i++) {
            change(x);
            Check.that("it is changed", !before.equals(Ways.picture(x)));
            Check.due("back", x.back(), 1);
            Check.that("all is again as it was", before.equals(Ways.picture(x)));
        }
        change(x);
        x.image();
        String then = Ways.picture(x);
        x.anew();
        x.back();
        Check.that("as it was kept last", then.equals(Ways.picture(x)));
    }

    private static void keepsNotAll() {
        Roof x = full();
        x.image();
        Ways.tell(x, 0, 5, 6);
        x.feed(65);
        x.feed(66);
        x.row(-1, 0, 0);
        x.back();
        Check.due("THE TAPE stays", x.status(8), 2);
        Check.due("SHELVES stay", x.element(0, 1), 6);
        Check.due("REFUSALS stay", x.status(12), 1);
        x.wipe();
        x.back();
        Check.due("THE TAPE isn't kept", x.status(8), 0);
        Roof empty = new Roof();
        empty.image();
        change(empty);
        empty.back();
        Check.due("no BENDS again", empty.status(0), 0);
        Check.due("SEED again", empty.status(9), 1);
    }

    private static void backAndShelves() {
        Roof x = Ways.three();
        x.image();
        x.bend(5, 1, 77, 1);
        x.show(5, 2);
        x.show(0, 3);
        x.show(1, 3);
        x.show(7, 3);
        x.row(2, 0, 3);
        Check.due("says", x.says(1, 0), 77);
        x.back();
        Check.due("a BEND of the same number", x.holds(5), 12);
        Check.due("NOTHING", x.holds(0), -1);
        Check.due("NOTHING", x.holds(1), -1);
        Check.due("NOTHING", x.holds(7), -1);
        Check.due("a ROW", x.holds(2), 0);
        Check.due("SHELVES that hold something", x.status(10), 2);
        x.bend(0, 1, 88, 1);
        Check.due("still NOTHING", x.holds(1), -1);
        x.show(1, 3);
        x.image();
        Roof y = Ways.three();
        y.show(4, 1);
        y.ask(0, 9);
        y.image();
        y.ask(0, 1);
        Check.due("says by PACE 1", y.says(4, 1), 3);
        y.back();
        Check.due("says by PACE 9", y.says(4, 1), 99);
        Check.due("nothing was refused", x.status(15) + y.status(15), 0);
    }

    private static void statusOfAll() {
        Roof x = full();
        Ways.feedAll(x, "abc");
        x.row(0, 0, 0);
        x.show(1, 1);
        x.show(2, 1);
        x.show(2, -1);
        int[] due = {3, 1, 4, 1, 5, 410, 2, 0, 3, 99, 2, 1, 0, 0, 0, 0, 0, 1};
        // By PACE 4, WET, GRIP 5: FALL 20, 22, 14; FELL 20000, 21560, 13418.
        due[7] = 1000000 - 20000 - 21560 - 13418 + 12000 * 70 / 100 + 12936 + 13418;
        for (int what = 0; what < due.length; what++) {
            Check.due("status(" + what + ")", x.status(what), due[what]);
        }
        int[] others = {-1, 18, -2, MIN, MAX};
        for (int what : others) {
            Check.due("status(" + what + ")", x.status(what), -1);
        }
        Check.due("nothing was refused", x.status(12), 0);
    }

    private static void statusOfRefusals() {
        Roof x = Ways.three();
        int[] times = {1, 2, 3, 4, 5};
        x.show(0, 0);
        for (int i = 0; i < 6; i++) {
            x.call(0, 1, 1);
        }
        x.weight(9);
        for (int i = 0; i < times[1]; i++) {
            x.set(0, 0, 0);
        }
        for (int i = 0; i < times[2]; i++) {
            x.set(1, 0, 0);
        }
        for (int i = 0; i < times[3]; i++) {
            x.back();
        }
        for (int i = 0; i < times[4]; i++) {
            x.call(0, 1, 1);
        }
        for (int i = 0; i < 5; i++) {
            Check.due("status(" + (12 + i) + ")", x.status(12 + i), times[i]);
        }
    }
}

/** Promises 36 to 43 and 48 to 50: how one drives, whom one calls, what a hook is worth. */
public final class DrivesTest {
    private static final int MIN = Integer.MIN_VALUE;
    private static final int MAX = Integer.MAX_VALUE;

    public static void main(String[] args) {
        fast();
        drove();
        gripFor();
        otherwise();
        slows();
        without();
        once();
        until();
        worth();
        hears();
        rings();
        refusals();
        aside();
        Check.end();
    }

    private static void fast() {
        Roof x = Ways.three();
        int[][] due = {{0, 9}, {961493, 3}, {961494, 2}, {973242, 2}, {973243, 1}, {983087, 1}, {983088, -1},
            {1000000, -1}};
        for (int[] d : due) {
            Check.due("fast(" + d[0] + ")", x.fast(d[0]), d[1]);
        }
        Check.due("PACE stays", x.status(2), 3);
        x.ask(1, 1);
        Check.due("WET", x.fast(904220), 3);
        Check.due("WET", x.fast(904221), 2);
        x.ask(2, 10);
        Check.due("GRIP 10", x.fast(1000000), 9);
        Check.due("nothing was refused", x.status(12) + x.status(15), 0);
    }

    private static void drove() {
        Roof x = Ways.three();
        Check.due("drove(0)", x.drove(0), 9);
        Check.due("drove(1)", x.drove(1), 9);
        Check.due("drove(2)", x.drove(2), 1);
        x.ask(2, 10);
        Check.due("of several the least", x.drove(0), 1);
        Roof hairpins = new Roof();
        for (int i = 0; i < 8; i++) {
            hairpins.bend(3, 9, 1, 0);
        }
        int most = 0;
        for (int pace = 1; pace <= 9; pace++) {
            if (hairpins.fell(7, pace) > hairpins.fell(7, Math.max(1, most))) {
                most = pace;
            }
        }
        Check.that("a PACE between", most > 1 && most < 9);
        Check.due("drove(7)", hairpins.drove(7), most);
        int[] bends = {-1, 3, MIN, MAX};
        for (int b : bends) {
            Check.refused(x, -2, "drove(" + b + ")", () -> x.drove(b));
        }
    }

    private static void gripFor() {
        Roof x = Ways.three();
        int[][] due = {{0, 0}, {961493, 0}, {961494, 1}, {966376, 1}, {966377, 2}, {1000000, 10}};
        for (int[] d : due) {
            Check.due("gripFor(" + d[0] + ")", x.gripFor(d[0]), d[1]);
        }
        x.ask(2, 5);
        Check.due("whatever the GRIP is", x.gripFor(961493), 0);
        Check.due("GRIP stays", x.status(4), 5);
    }

    private static void otherwise() {
        Roof x = Ways.three();
        Check.due("if it were WET", x.otherwise(), 904220);
        x.ask(1, 1);
        Check.due("if it weren't", x.otherwise(), 961493);
        Check.due("WET stays", x.status(3), 1);
        x.ask(2, 10);
        Check.due("GRIP 10", x.otherwise(), 1000000);
        Check.due("without BENDS", new Roof().otherwise(), 1000000);
    }

    private static void slows() {
        Roof x = Ways.three();
        int[] due = {0, 2, 3, 3};
        for (int k = 0; k <= 3; k++) {
            Check.due("slows(" + k + ")", x.slows(k), due[k]);
        }
        Roof even = Ways.even(14, 1);
        Check.due("as many as may be", Integer.bitCount(even.slows(3)), 3);
        Roof last = Ways.even(13, 1);
        last.bend(3, 9, 1, 0);
        Check.due("the last", last.slows(1), 1 << 13);
        last.ask(0, 1);
        Check.due("none gains anything", last.slows(3), 0);
        Roof three = new Roof();
        for (int i = 0; i < 10; i++) {
            three.bend(i % 4 == 1 ? 3 : 5, 5, 1, 0);
        }
        Check.due("these three", three.slows(3), 2 + 32 + 512);
        Check.due("no more than there are", three.slows(2) & ~(2 + 32 + 512), 0);
        Check.due("PACE stays", three.status(2), 3);
    }

    private static void without() {
        Roof x = Ways.three();
        int[] due = {976135, 976135, 970225};
        for (int bend = 0; bend < 3; bend++) {
            Check.due("without(" + bend + ")", x.without(bend), due[bend]);
        }
        int[] bends = {-1, 3, MIN, MAX};
        for (int b : bends) {
            Check.refused(x, -2, "without(" + b + ")", () -> x.without(b));
        }
    }

    private static void once() {
        Roof x = Ways.three();
        Check.due("once(0)", x.once(0), 0);
        Check.due("once(1)", x.once(1), 38507);
        Check.due("once(2)", x.once(2), 75532);
        Check.due("once(999)", x.once(999), 1000000);
        Check.due("without BENDS", new Roof().once(999), 0);
    }

    private static void until() {
        Roof x = Ways.three();
        int[][] due = {{0, 0}, {1, 1}, {38507, 1}, {38508, 2}, {75532, 2}, {75533, 3}};
        for (int[] d : due) {
            Check.due("until(" + d[0] + ")", x.until(d[0]), d[1]);
        }
        int all = x.until(1000000);
        Check.due("surely", x.once(all), 1000000);
        Check.that("not surely ahead", x.once(all - 1) < 1000000);
        Roof seldom = new Roof();
        seldom.ask(0, 1);
        seldom.bend(0, 1, 1, 0);
        int most = seldom.once(999);
        Check.due("the most", seldom.until(most), 999);
        Check.due("more", seldom.until(most + 1), -1);
        Check.due("nothing was refused", x.status(12) + seldom.status(12), 0);
    }

    private static void worth() {
        Roof x = Ways.three();
        Check.due("worth", x.worth(10, 100, 50), -12);
        Check.due("worth of nothing", x.worth(0, 0, 0), 0);
        Check.due("the least", x.worth(0, 999, 9999), -9999);
        Check.due("the most", x.worth(999, 999, 0), 38430);
        int[][] wrong = {{-1, 0, 0}, {1000, 0, 0}, {0, -1, 0}, {0, 1000, 0}, {0, 0, -1}, {0, 0, 10000}, {MIN, 0, 0},
            {MAX, 0, 0}, {0, MIN, 0}, {0, MAX, 0}, {0, 0, MIN}, {0, 0, MAX}};
        for (int[] w : wrong) {
            Check.refusedAs(x, -2, -10000002, "worth", () -> x.worth(w[0], w[1], w[2]));
        }
    }

    private static Roof called() {
        Roof x = Ways.three();
        x.call(1, 10, 50);
        x.call(2, 20, 100);
        x.call(2, 5, 10);
        x.call(0, 1, 100);
        return x;
    }

    private static void hears() {
        Roof one = Ways.three();
        one.call(1, 10, 50);
        Check.due("from the beginning", one.hears(0), 14887);
        one.call(1, 3, 100);
        Check.due("another at the same BEND", one.hears(0), 14887);
        one.call(2, 3, 100);
        Check.due("another behind", one.hears(0), 14887);
        Roof x = called();
        int[] due = {7387, 8732, 873, 15000};
        for (int i = 0; i < due.length; i++) {
            Check.due("hears(" + i + ")", x.hears(i), due[i]);
        }
        x.sign(0, true, 50);
        Check.due("by the SIGNS", x.hears(3), 7500);
        int[] calls = {-1, 4, MIN, MAX};
        for (int c : calls) {
            Check.refused(x, -2, "hears(" + c + ")", () -> x.hears(c));
        }
        Roof cut = Ways.three();
        cut.call(2, 1, 1);
        Check.due("cut once, not BEND by BEND", cut.hears(0), 385);
    }

    private static void rings() {
        Roof x = called();
        int[][] due = {{0, 0}, {1, 8}, {5, 8}, {6, 12}, {10, 12}, {11, 9}, {35, 11}, {36, 15}, {999, 15}};
        for (int[] d : due) {
            Check.due("rings(" + d[0] + ")", x.rings(d[0]), d[1]);
        }
        x.call(0, 1, 0);
        Check.due("of several the least as bits", x.rings(999), 15);
        x.call(0, 1, 100);
        Check.due("one of two alike", x.rings(1), 8);
        Check.due("without CALLS", Ways.three().rings(999), 0);
        int[] minutes = {-1, 1000, MIN, MAX};
        for (int m : minutes) {
            Check.refused(x, -2, "rings(" + m + ")", () -> x.rings(m));
        }
    }

    private static void refusals() {
        Roof x = Ways.three();
        int[] wrong = {-1, 1000001, MIN, MAX};
        for (int v : wrong) {
            Check.refused(x, -2, "fast(" + v + ")", () -> x.fast(v));
            Check.refused(x, -2, "gripFor(" + v + ")", () -> x.gripFor(v));
            Check.refused(x, -2, "until(" + v + ")", () -> x.until(v));
            Check.refused(x, -2, "once(" + v + ")", () -> x.once(v));
            Check.refused(x, -2, "slows(" + v + ")", () -> x.slows(v));
        }
        Check.refused(x, -2, "once(1000)", () -> x.once(1000));
        Check.refused(x, -2, "slows(4)", () -> x.slows(4));
    }

    /** What is told of HELD "without SIGNS, LOOKS" is the same with them. */
    private static void aside() {
        Roof x = Ways.three();
        x.sign(2, false, 100);
        x.look(0, 3);
        Check.due("fast", x.fast(961493), 3);
        Check.due("drove", x.drove(0), 9);
        Check.due("gripFor", x.gripFor(961493), 0);
        Check.due("otherwise", x.otherwise(), 904220);
        Check.due("slows", x.slows(1), 2);
        Check.due("without", x.without(0), 976135);
        Check.due("once", x.once(1), 38507);
        Check.due("until", x.until(38507), 1);
        Check.due("worth", x.worth(10, 100, 50), -12);
    }
}

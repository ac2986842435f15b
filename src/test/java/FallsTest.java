/** Promises 18 to 27, 44 and 45: where it falls, by what was seen. */
public final class FallsTest {
    private static final int MIN = Integer.MIN_VALUE;
    private static final int MAX = Integer.MAX_VALUE;

    public static void main(String[] args) {
        fall();
        fell();
        weight();
        weightBySigns();
        weightBySignsThenLooks();
        likely();
        between();
        half();
        few();
        asks();
        after();
        whereAndLast();
        worst();
        refusals();
        Check.end();
    }

    private static void fall() {
        Roof x = new Roof();
        for (int kind = 0; kind <= 5; kind++) {
            x.bend(kind, 4, 1, 0);
        }
        int[] dry = {28, 77, 38, 154, 58, 4};
        int[] least = {4, 5, 14, 10, 34, 4};
        for (int kind = 0; kind <= 5; kind++) {
            Check.due("FALL by 7 of KIND " + kind, x.fall(kind, 7), dry[kind]);
            Check.due("FALL by 1 of KIND " + kind, x.fall(kind, 1), least[kind]);
        }
        x.ask(1, 1);
        for (int kind = 0; kind <= 5; kind++) {
            Check.due("FALL, WET, of KIND " + kind, x.fall(kind, 7), dry[kind] + 20);
        }
        x.ask(2, 3);
        for (int kind = 0; kind <= 5; kind++) {
            Check.due("FALL, WET, GRIP 3, of KIND " + kind, x.fall(kind, 7), (dry[kind] + 20) * 7 / 10);
        }
        x.ask(2, 10);
        Check.due("FALL, GRIP 10", x.fall(3, 9), 0);
        Check.due("PACE stays", x.status(2), 3);
    }

    private static void fell() {
        Roof x = Ways.three();
        int[] due = {961493, 15000, 14775, 8732};
        for (int bend = -1; bend < 3; bend++) {
            Check.due("fell(" + bend + ", 3)", x.fell(bend, 3), due[bend + 1]);
        }
        x.sign(2, false, 100);
        x.look(0, 3);
        Check.due("without SIGNS", x.fell(-1, 3), 961493);
        Check.due("without LOOKS", x.fell(0, 3), 15000);
        Check.due("by another PACE", x.fell(1, 1), 2985);
        Check.due("HELD by another PACE", x.fell(-1, 1), 983087);
        Check.due("HELD without BENDS", new Roof().fell(-1, 9), 1000000);
    }

    private static void weights(String when, Roof x, int... due) {
        int all = 0;
        for (int bend = -1; bend < due.length - 1; bend++) {
            Check.due(when + ", weight(" + bend + ")", x.weight(bend), due[bend + 1]);
            all += due[bend + 1];
        }
        Check.due(when + ", all WEIGHTS", x.status(7), all);
    }

    private static void weight() {
        Roof x = Ways.three();
        weights("at first", x, 961493, 15000, 14775, 8732);
        x.ask(0, 1);
        weights("by PACE 1", x, 983087, 5000, 2985, 8928);
        weights("no BENDS", new Roof(), 1000000);
    }

    private static void weightBySigns() {
        Roof x = Ways.three();
        x.sign(1, true, 30);
        weights("seen at 1", x, 961493, 10500, 10342, 8732);
        x.sign(0, false, 75);
        weights("gone at 0", x, 240373, 10500, 2585, 2183);
        x.sign(2, false, 1);
        weights("gone at 2", x, 237969, 10500, 2585, 2183);
        x.sign(0, true, 0);
        weights("seen at 0, not sure at all", x, 237969, 10500, 2585, 2183);
        x.sign(0, true, 100);
        weights("seen at 0, quite sure", x, 237969, 0, 2585, 2183);
        Roof other = Ways.three();
        other.sign(0, false, 33);
        other.sign(1, true, 33);
        weights("cut sign by sign", other, 644200, 10050, 6632, 5850);
    }

    private static void weightBySignsThenLooks() {
        Roof x = Ways.three();
        x.look(1, 1);
        x.look(1, 2);
        Check.due("MISS", x.bendOf(1, 4), 28);
        weights("looked at 1", x, 961493, 15000, 4137, 8732);
        x.sign(1, true, 50);
        Check.due("SIGNS ahead of LOOKS", x.weight(1), 7387 * 28 / 100);
        x.look(1, 3);
        Check.due("MISS", x.bendOf(1, 4), 2);
        x.look(1, 3);
        Check.due("MISS", x.bendOf(1, 4), 0);
        weights("nothing is left there", x, 961493, 7500, 0, 8732);
    }

    private static void likely() {
        Roof x = Ways.three();
        int[] due = {961, 15, 14, 8};
        for (int bend = -1; bend < 3; bend++) {
            Check.due("likely(" + bend + ")", x.likely(bend), due[bend + 1]);
        }
        Roof fallen = Ways.threeFallen();
        int[] then = {0, 389, 383, 226};
        for (int bend = -1; bend < 3; bend++) {
            Check.due("likely(" + bend + ") if it fell", fallen.likely(bend), then[bend + 1]);
        }
        fallen.sign(2, true, 100);
        Check.refused(fallen, -5, "likely(0) of nothing", () -> fallen.likely(0));
        Check.refused(fallen, -5, "likely(NONE) of nothing", () -> fallen.likely(-1));
        Check.refused(fallen, -2, "likely(3) of nothing", () -> fallen.likely(3));
        Check.due("likely(NONE) without BENDS", new Roof().likely(-1), 1000);
    }

    private static void between() {
        Roof x = Ways.three();
        Check.due("between(0, 0)", x.between(0, 0), 15);
        Check.due("between(0, 1)", x.between(0, 1), 29);
        Check.due("between(1, 2)", x.between(1, 2), 23);
        Check.due("between(0, 2)", x.between(0, 2), 38);
        Check.due("between(2, 2)", x.between(2, 2), 8);
        int[][] wrong = {{1, 0}, {-1, 0}, {0, 3}, {3, 3}, {0, -1}, {-1, -1}, {MIN, 0}, {0, MAX}};
        for (int[] w : wrong) {
            Check.refused(x, -2, "between " + w[0] + " " + w[1], () -> x.between(w[0], w[1]));
        }
        Roof fallen = Ways.threeFallen();
        Check.due("all, if it fell", fallen.between(0, 2), 1000);
        fallen.sign(2, true, 100);
        Check.refused(fallen, -5, "between of nothing", () -> fallen.between(0, 1));
        Check.refused(fallen, -2, "between of nothing, the other way", () -> fallen.between(1, 0));
    }

    private static void half() {
        Roof x = Ways.three();
        Check.due("half, mostly held", x.half(), -1);
        Roof fallen = Ways.threeFallen();
        Check.due("half, if it fell", fallen.half(), 1);
        fallen.sign(2, true, 100);
        Check.due("half of nothing", fallen.half(), 0);
        Check.due("half without BENDS", new Roof().half(), -1);
        Check.due("nothing was refused", x.status(12) + x.status(15), 0);
        // 10000 and 9900 of KIND 0 by PACE 1, then made 9900 both: the first is the half, just.
        Roof even = Ways.even(2, 1);
        even.ask(0, 1);
        even.bend(0, 0, 1, 0);
        even.sign(2, false, 100);
        Check.due("1000 and 999", even.weight(0) - even.weight(1), 1);
        Check.due("more than half", even.half(), 0);
        even.sign(0, true, 1);
        Check.due("990 and 999", even.weight(1) - even.weight(0), 9);
        Check.due("less than half", even.half(), 1);
        Roof just = new Roof();
        just.bend(3, 9, 1, 0);
        just.bend(3, 9, 1, 0);
        just.sign(1, false, 100);
        just.sign(0, true, 50);
        just.sign(1, true, 100);
        Check.due("only 0 = 0 + 0", just.half(), 0);
    }

    private static void few() {
        Roof x = Ways.three();
        int[][] due = {{0, 0}, {1, 1}, {389, 1}, {390, 2}, {773, 2}, {774, 3}, {1000, 3}};
        for (int[] d : due) {
            Check.due("few(" + d[0] + ")", x.few(d[0]), d[1]);
        }
        x.sign(0, true, 90);
        Check.due("few, 14775 of 1500, 14775, 8732", x.few(590), 1);
        Check.due("few, 14775 and 8732", x.few(591), 2);
        x.sign(2, true, 100);
        Check.due("few of nothing", x.few(1000), 0);
        Check.refused(x, -2, "few(-1)", () -> x.few(-1));
        Check.refused(x, -2, "few(1001)", () -> x.few(1001));
        Roof zero = new Roof();
        zero.bend(0, 0, 1, 0);
        zero.bend(0, 9, 1, 0);
        Check.due("one has all", zero.few(1000), 1);
    }

    private static void asks() {
        Roof x = Ways.three();
        Check.due("asks, mostly held", x.asks(), 2);
        Roof fallen = Ways.threeFallen();
        Check.due("asks, if it fell", fallen.asks(), 0);
        fallen.look(0, 3);
        Check.due("asks, looked at 0", fallen.asks(), 1);
        fallen.sign(2, true, 100);
        Check.due("asks of nothing", fallen.asks(), 0);
        Roof none = new Roof();
        Check.refused(none, -5, "asks without BENDS", none::asks);
        Roof flat = new Roof();
        flat.bend(0, 0, 1, 0);
        flat.bend(0, 9, 1, 0);
        flat.bend(0, 0, 1, 0);
        Check.due("of several the first", flat.asks(), 1);
    }

    private static void after() {
        Roof x = Ways.three();
        Check.due("gone at 2", x.after(2, false, 100), 0);
        Check.due("seen at 0", x.after(0, true, 50), 968);
        Check.due("gone at 1", x.after(1, false, 20), 954);
        Check.due("not sure at all", x.after(1, false, 0), 961);
        Check.due("no SIGN came of it", x.status(1), 0);
        x.look(0, 3);
        Check.due("by the LOOKS", x.after(0, true, 50), 975);
        int[][] wrong = {{-1, 0}, {3, 0}, {0, -1}, {0, 101}, {MIN, 0}, {MAX, 0}, {0, MIN}, {0, MAX}};
        for (int[] w : wrong) {
            Check.refused(x, -2, "after " + w[0] + " " + w[1], () -> x.after(w[0], true, w[1]));
        }
        Roof fallen = Ways.threeFallen();
        Check.refused(fallen, -5, "after of nothing", () -> fallen.after(2, true, 100));
        for (int i = 0; i < 7; i++) {
            fallen.sign(2, true, 100);
        }
        Check.refused(fallen, -6, "after with a 9th", () -> fallen.after(2, true, 100));
        Check.refused(fallen, -2, "after with a 9th at no BEND", () -> fallen.after(3, true, 100));
    }

    private static void whereAndLast() {
        Roof x = Ways.three();
        Check.due("where", x.where(), 0);
        x.look(0, 1);
        Check.due("where, looked at 0", x.where(), 1);
        Check.due("last", x.last(), 2);
        x.sign(1, false, 100);
        Check.due("last, gone at 1", x.last(), 1);
        x.sign(0, true, 100);
        Check.due("where, seen at 0", x.where(), 1);
        x.sign(1, true, 100);
        Check.due("where of nothing", x.where(), 0);
        Check.due("last of nothing", x.last(), -1);
        Roof none = new Roof();
        Check.due("last without BENDS", none.last(), -1);
        Check.refused(none, -5, "where without BENDS", none::where);
        Roof flat = new Roof();
        flat.bend(0, 5, 1, 0);
        flat.bend(0, 0, 1, 0);
        Check.due("last above 0", flat.last(), 0);
        Roof twice = new Roof();
        twice.bend(0, 0, 1, 0);
        twice.bend(0, 9, 1, 0);
        twice.bend(0, 9, 1, 0);
        twice.sign(0, false, 100);
        twice.sign(1, true, 100);
        twice.sign(2, true, 100);
        Check.due("where, all 0", twice.where(), 0);
    }

    private static void worst() {
        Roof x = Ways.three();
        Check.due("of several the first", x.worst(), 0);
        x.ask(0, 9);
        Check.due("by PACE 9", x.worst(), 1);
        x.ask(0, 1);
        Check.due("by PACE 1", x.worst(), 2);
        x.ask(2, 10);
        Check.due("all 0", x.worst(), 0);
        Roof none = new Roof();
        Check.refused(none, -5, "worst without BENDS", none::worst);
    }

    private static void refusals() {
        Roof x = Ways.three();
        int[] bends = {-2, 3, MIN, MAX};
        for (int b : bends) {
            Check.refused(x, -2, "fall(" + b + ", 1)", () -> x.fall(b, 1));
            Check.refused(x, -2, "fell(" + b + ", 1)", () -> x.fell(b, 1));
            Check.refused(x, -2, "weight(" + b + ")", () -> x.weight(b));
            Check.refused(x, -2, "likely(" + b + ")", () -> x.likely(b));
        }
        Check.refused(x, -2, "fall(NONE, 1)", () -> x.fall(-1, 1));
        int[] paces = {0, 10, -1, MIN, MAX};
        for (int p : paces) {
            Check.refused(x, -2, "fall(0, " + p + ")", () -> x.fall(0, p));
            Check.refused(x, -2, "fell(0, " + p + ")", () -> x.fell(0, p));
            Check.refused(x, -2, "fell(NONE, " + p + ")", () -> x.fell(-1, p));
        }
    }
}

/** Promises 1, 9 to 12, 16, 17, 46 and 47: what there is of the way. */
public final class WayTest {
    private static final int MIN = Integer.MIN_VALUE;
    private static final int MAX = Integer.MAX_VALUE;

    public static void main(String[] args) {
        newObject();
        bends();
        bendRefusals();
        asks();
        signs();
        signRefusals();
        anew();
        bendOf();
        calls();
        callRefusals();
        Check.end();
    }

    private static void newObject() {
        Roof x = new Roof();
        int[] due = {0, 0, 3, 0, 0, 0, -1, 1000000, 0, 1, 0, 0, 0, 0, 0, 0, 0, 0, -1};
        for (int what = 0; what < due.length; what++) {
            Check.due("status(" + what + ")", x.status(what), due[what]);
        }
        for (int s = 0; s < 8; s++) {
            Check.due("holds(" + s + ")", x.holds(s), -1);
        }
        Check.due("NONE", OnTheRoof.NONE, -1);
    }

    private static void bends() {
        Roof x = new Roof();
        Check.due("the least", x.bend(0, 0, 1, 0), 0);
        Check.due("the most", x.bend(5, 9, 999, 1000), 1);
        for (int i = 2; i < 14; i++) {
            Check.due("bend", x.bend(i % 6, i % 10, i, i), i);
        }
        Check.due("BENDS", x.status(0), 14);
        Check.refused(x, -6, "a 15th", () -> x.bend(0, 0, 1, 0));
        Check.refused(x, -2, "a 15th that may not be", () -> x.bend(0, 0, 0, 0));
    }

    private static void bendRefusals() {
        Roof x = Ways.three();
        int[][] wrong = {{-1, 1, 1, 1}, {6, 1, 1, 1}, {0, -1, 1, 1}, {0, 10, 1, 1}, {0, 1, 0, 1}, {0, 1, 1000, 1},
            {0, 1, -1, 1}, {0, 1, 1, -1}, {0, 1, 1, 1001}, {MIN, 1, 1, 1}, {MAX, 1, 1, 1}, {0, MIN, 1, 1},
            {0, MAX, 1, 1}, {0, 1, MIN, 1}, {0, 1, MAX, 1}, {0, 1, 1, MIN}, {0, 1, 1, MAX}};
        for (int[] w : wrong) {
            Check.refused(x, -2, "bend", () -> x.bend(w[0], w[1], w[2], w[3]));
        }
    }

    private static void asks() {
        Roof x = Ways.three();
        Check.due("PACE", x.ask(0, 9), 3);
        Check.due("PACE again", x.ask(0, 1), 9);
        Check.due("WET", x.ask(1, 1), 0);
        Check.due("WET again", x.ask(1, 0), 1);
        Check.due("GRIP", x.ask(2, 10), 0);
        Check.due("GRIP again", x.ask(2, 4), 10);
        Check.due("PACE stays", x.status(2), 1);
        Check.due("WET stays", x.status(3), 0);
        Check.due("GRIP stays", x.status(4), 4);
        int[][] wrong = {{-1, 1}, {3, 1}, {MIN, 1}, {MAX, 1}, {0, 0}, {0, 10}, {0, MIN}, {1, -1}, {1, 2}, {1, MAX},
            {2, -1}, {2, 11}, {4, 1}, {-4, 1}};
        for (int[] w : wrong) {
            Check.refused(x, -2, "ask " + w[0] + " " + w[1], () -> x.ask(w[0], w[1]));
        }
    }

    private static void signs() {
        Roof x = Ways.three();
        Check.due("sign", x.sign(2, true, 100), 1);
        Check.due("sign", x.sign(0, false, 0), 2);
        int[] due = {2, 1, 100, 0, 0, 0};
        for (int i = 0; i < due.length; i++) {
            Check.due("signOf " + i, x.signOf(i / 3, i % 3), due[i]);
        }
        int[][] wrong = {{-1, 0}, {2, 0}, {0, -1}, {0, 3}, {MIN, 0}, {MAX, 0}, {0, MAX}, {0, MIN}};
        for (int[] w : wrong) {
            Check.refused(x, -2, "signOf " + w[0] + " " + w[1], () -> x.signOf(w[0], w[1]));
        }
    }

    private static void signRefusals() {
        Roof x = Ways.three();
        int[][] wrong = {{-1, 1}, {3, 1}, {MIN, 1}, {MAX, 1}, {0, -1}, {0, 101}, {0, MIN}, {0, MAX}};
        for (int[] w : wrong) {
            Check.refused(x, -2, "sign " + w[0] + " " + w[1], () -> x.sign(w[0], true, w[1]));
        }
        for (int i = 1; i <= 8; i++) {
            Check.due("sign", x.sign(i % 3, i % 2 == 0, i), i);
        }
        Check.refused(x, -6, "a 9th", () -> x.sign(0, true, 0));
        Check.refused(x, -2, "a 9th at no BEND", () -> x.sign(3, true, 0));
    }

    private static void anew() {
        Roof x = Ways.three();
        Check.due("anew without any", x.anew(), 0);
        x.sign(0, true, 5);
        x.sign(1, true, 5);
        x.look(2, 3);
        x.call(1, 1, 1);
        x.lies(1);
        Check.due("anew", x.anew(), 2);
        Check.due("SIGNS", x.status(1), 0);
        Check.due("BENDS looked at", x.status(11), 0);
        Check.due("MISS", x.bendOf(2, 4), 100);
        Check.due("CALLS stay", x.status(17), 1);
        Check.due("LIES stays", x.status(6), 1);
        Check.due("again", x.anew(), 0);
    }

    private static void bendOf() {
        Roof x = Ways.three();
        x.look(1, 1);
        int[] due = {1, 2, 250, 500, 70, 15, 350};
        for (int what = 0; what < due.length; what++) {
            Check.due("bendOf(1, " + what + ")", x.bendOf(1, what), due[what]);
        }
        Check.due("YARDS to the first", x.bendOf(0, 6), 100);
        Check.due("YARDS to the last", x.bendOf(2, 6), 410);
        Check.due("all YARDS", x.status(5), 410);
        x.ask(0, 9);
        Check.due("FALL by PACE 9", x.bendOf(1, 5), 99);
        int[][] wrong = {{-1, 0}, {3, 0}, {MIN, 0}, {MAX, 0}, {0, -1}, {0, 7}, {0, MIN}, {0, MAX}};
        for (int[] w : wrong) {
            Check.refused(x, -2, "bendOf " + w[0] + " " + w[1], () -> x.bendOf(w[0], w[1]));
        }
    }

    private static void calls() {
        Roof x = Ways.three();
        Check.due("call", x.call(2, 1, 0), 0);
        Check.due("call", x.call(0, 99, 100), 1);
        int[] due = {2, 1, 0, 0, 99, 100};
        for (int i = 0; i < due.length; i++) {
            Check.due("callOf " + i, x.callOf(i / 3, i % 3), due[i]);
        }
        Check.due("CALLS", x.status(17), 2);
        int[][] wrong = {{-1, 0}, {2, 0}, {0, -1}, {0, 3}, {MIN, 0}, {MAX, 0}, {0, MAX}, {0, MIN}};
        for (int[] w : wrong) {
            Check.refused(x, -2, "callOf " + w[0] + " " + w[1], () -> x.callOf(w[0], w[1]));
        }
    }

    private static void callRefusals() {
        Roof x = Ways.three();
        int[][] wrong = {{-1, 1, 1}, {3, 1, 1}, {0, 0, 1}, {0, 100, 1}, {0, 1, -1}, {0, 1, 101}, {MIN, 1, 1},
            {MAX, 1, 1}, {0, MIN, 1}, {0, MAX, 1}, {0, 1, MIN}, {0, 1, MAX}};
        for (int[] w : wrong) {
            Check.refused(x, -2, "call", () -> x.call(w[0], w[1], w[2]));
        }
        for (int i = 0; i < 6; i++) {
            Check.due("call", x.call(i % 3, 1 + i, i), i);
        }
        Check.refused(x, -6, "a 7th", () -> x.call(0, 1, 1));
        Check.refused(x, -2, "a 7th at no BEND", () -> x.call(3, 1, 1));
    }
}

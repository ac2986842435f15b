/** Promises 28 to 35: looks, their seconds, what they find, and which are best. */
public final class LooksTest {
    private static final int MIN = Integer.MIN_VALUE;
    private static final int MAX = Integer.MAX_VALUE;

    public static void main(String[] args) {
        seconds();
        found();
        bestFound();
        bestRow();
        bestIsFirst();
        bestAtTheEdges();
        next();
        soonest();
        order();
        vain();
        noNext();
        others();
        refusals();
        Check.end();
    }

    private static void seconds() {
        Roof x = Ways.three();
        int[] due = {11, 26, 101, 26, 63, 251, 7, 16, 61};
        for (int i = 0; i < 9; i++) {
            Check.due("seconds " + i, x.seconds(i / 3, 1 + i % 3), due[i]);
        }
        x.bend(0, 0, 1, 0);
        x.bend(0, 0, 999, 0);
        int[] edges = {1, 1, 2, 100, 250, 1000};
        for (int i = 0; i < 6; i++) {
            Check.due("seconds at the edges " + i, x.seconds(3 + i / 3, 1 + i % 3), edges[i]);
        }
    }

    private static void found() {
        Roof x = Ways.three();
        int[] due = {4500, 9000, 13500, 4432, 8865, 13297, 2619, 5239, 7858};
        for (int i = 0; i < 9; i++) {
            Check.due("found " + i, x.found(i / 3, 1 + i % 3), due[i]);
        }
        x.sign(0, true, 50);
        Check.due("by the SIGNS", x.found(0, 3), 6750);
        x.look(0, 2);
        Check.due("by the LOOKS", x.found(0, 3), 2700);
    }

    private static void best(Roof x, int seconds, int found, int... row) {
        Check.due("best(" + seconds + ", NONE)", x.best(seconds, -1), found);
        for (int i = 0; i < row.length; i++) {
            Check.due("best(" + seconds + ", " + i + ")", x.best(seconds, i), row[i]);
        }
    }

    private static void bestFound() {
        Roof x = Ways.three();
        best(x, 0, 0, 0, 0, 0);
        best(x, 9, 0, 0, 0, 0);
        best(x, 10, 2619, 0, 0, 1);
        best(x, 19, 2619, 0, 0, 1);
        best(x, 20, 5239, 0, 0, 2);
        best(x, 30, 9000, 2, 0, 0);
        best(x, 40, 11619, 2, 0, 1);
        best(x, 50, 14239, 2, 0, 2);
        best(x, 110, 20484, 2, 2, 1);
        best(x, 439, 34655 - 5239 + 2620, 3, 3, 2);
        best(x, 440, 34655, 3, 3, 3);
        best(x, 9000, 34655, 3, 3, 3);
    }

    private static void bestRow() {
        Roof x = Ways.three();
        best(x, 60, 14239, 2, 0, 2);
        best(x, 70, 16051, 2, 1, 1);
        best(x, 80, 18671, 2, 1, 2);
        x.sign(1, false, 100);
        best(x, 440, 26797, 3, 3, 0);
        x.look(0, 3);
        best(x, 440, 14647, 3, 3, 0);
    }

    private static void bestIsFirst() {
        Roof x = new Roof();
        x.ask(0, 1);
        x.bend(3, 9, 10, 0);
        x.bend(3, 9, 10, 0);
        x.sign(1, false, 100);
        // 20000 and 19600; 10 seconds each by DRIVE or SLOW, 20 on FOOT.
        best(x, 10, 12000, 2, 0);
        x.sign(0, true, 2);
        Check.due("now alike", x.weight(0) - x.weight(1), 0);
        best(x, 10, 11760, 0, 2);
        best(x, 20, 23520, 2, 2);
        best(x, 30, 29400, 2, 3);
        best(x, 40, 35280, 3, 3);
        Roof none = new Roof();
        none.bend(0, 0, 5, 0);
        best(none, 9000, 0, 0);
    }

    private static void bestAtTheEdges() {
        Roof x = new Roof();
        x.bend(3, 9, 999, 0);
        Check.due("FELL", x.weight(0), 72000);
        best(x, 99, 0, 0);
        best(x, 100, 21600, 1);
        best(x, 249, 21600, 1);
        best(x, 250, 43200, 2);
        best(x, 999, 43200, 2);
        best(x, 1000, 64800, 3);
        Roof most = new Roof();
        most.ask(0, 9);
        for (int i = 0; i < 14; i++) {
            most.bend(3, 9, 999, 0);
        }
        Check.due("nine on foot at the most", most.best(9000, 0), 3);
        int looks = 0;
        for (int i = 0; i < 14; i++) {
            looks += new int[] {0, 10, 25, 100}[most.best(9000, i)];
        }
        Check.that("in 900 tens", looks <= 900 && looks > 890);
        Roof none = new Roof();
        best(none, 0, 0);
        best(none, 9000, 0);
    }

    private static void next() {
        Roof x = Ways.three();
        Check.due("next", x.next(), 1);
        x.look(0, 1);
        Check.due("next, looked at 0", x.next(), 21);
        x.sign(1, false, 100);
        x.sign(0, true, 100);
        Check.due("next, it is at 1", x.next(), 11);
        x.sign(1, true, 100);
        Check.due("nothing to be found", x.next(), -1);
        Check.due("that isn't refused", x.status(15), 0);
        Check.due("without BENDS", new Roof().next(), -1);
        Roof alike = new Roof();
        alike.ask(0, 1);
        alike.bend(3, 9, 4, 0);
        alike.bend(3, 9, 4, 0);
        alike.sign(1, false, 100);
        alike.sign(0, true, 2);
        // DRIVE: 5880 in 1 second; SLOW: 11760 in 2; FOOT: 17640 in 5.
        Check.due("of several the first", alike.next(), 1);
    }

    private static void soonest() {
        Roof x = Ways.three();
        int[][] due = {{0, 0}, {1, 10}, {2619, 10}, {2620, 20}, {5239, 20}, {5240, 30}, {9000, 30}, {9001, 40},
            {14239, 50}, {34655, 440}, {34656, -1}, {1000000, -1}};
        for (int[] d : due) {
            Check.due("soonest(" + d[0] + ")", x.soonest(d[0]), d[1]);
        }
        Check.due("nothing was refused", x.status(12) + x.status(15), 0);
        Check.due("without BENDS", new Roof().soonest(0), 0);
        Roof far = Ways.even(9, 999);
        int all = far.best(9000, -1);
        Check.due("in all the time", far.soonest(all), 9000);
        Check.due("one more", far.soonest(all + 1), -1);
    }

    private static void order() {
        Roof x = Ways.three();
        int[] due = {1, 21, 1, 21};
        for (int i = 0; i < due.length; i++) {
            Check.due("order(" + i + ")", x.order(i), due[i]);
        }
        Check.due("nothing is changed", x.status(11), 0);
    }

    private static void vain() {
        Roof x = Ways.three();
        int[] due = {1000000, 995500, 992880};
        for (int i = 0; i < due.length; i++) {
            Check.due("vain(" + i + ")", x.vain(i), due[i]);
        }
        Check.due("nothing is changed", x.status(7), 1000000);
    }

    private static void noNext() {
        Roof x = new Roof();
        x.bend(0, 1, 999, 0);
        x.sign(0, false, 100);
        int looks = 0;
        while (looks < 41 && x.order(looks) != -1) {
            looks++;
        }
        Check.that("some looks are enough", looks > 2 && looks < 40);
        Check.due("no NEXT then", x.order(40), -1);
        Check.due("what is left then", x.vain(40), x.vain(looks));
        Check.that("less was left ahead", x.vain(looks - 1) > x.vain(looks));
        Check.due("nothing was refused", x.status(12) + x.status(15), 0);
    }

    private static void others() {
        Roof x = Ways.three();
        Check.due("others(0)", x.others(0), 0);
        Check.due("others(1)", x.others(1), 16269);
        Check.due("others(2)", x.others(2), 20111);
        x.sign(2, false, 100);
        x.look(2, 1);
        Check.due("by SIGNS and LOOKS", x.others(1), 150 + 7387 + 6112);
        Roof slow = new Roof();
        slow.bend(0, 5, 1, 1);
        Check.due("as long as a whole one goes", slow.others(300), 15000 - left(15000, 300));
        Check.due("the most minutes", Ways.threeFallen().others(300), 15000 - leftOf(15000, 10, 300) + 14775 - 1 + 8732);
    }

    private static int left(int weight, int minutes) {
        return leftOf(weight, 1, minutes);
    }

    private static int leftOf(int weight, int people, int minutes) {
        int left = weight;
        for (int i = 0; i < minutes; i++) {
            left -= left * people / 1000;
        }
        return left;
    }

    private static void refusals() {
        Roof x = Ways.three();
        int[] bends = {-1, 3, MIN, MAX};
        for (int b : bends) {
            Check.refused(x, -2, "seconds(" + b + ", 1)", () -> x.seconds(b, 1));
            Check.refused(x, -2, "found(" + b + ", 1)", () -> x.found(b, 1));
        }
        int[] looks = {0, 4, -1, MIN, MAX};
        for (int k : looks) {
            Check.refused(x, -2, "seconds(0, " + k + ")", () -> x.seconds(0, k));
            Check.refused(x, -2, "found(0, " + k + ")", () -> x.found(0, k));
        }
        int[] negative = {-1, MIN, MAX};
        for (int v : negative) {
            Check.refused(x, -2, "best(" + v + ", NONE)", () -> x.best(v, -1));
            Check.refused(x, -2, "soonest(" + v + ")", () -> x.soonest(v));
            Check.refused(x, -2, "order(" + v + ")", () -> x.order(v));
            Check.refused(x, -2, "vain(" + v + ")", () -> x.vain(v));
            Check.refused(x, -2, "others(" + v + ")", () -> x.others(v));
        }
        int[] rows = {-2, 3, MIN, MAX};
        for (int i : rows) {
            Check.refused(x, -2, "best(10, " + i + ")", () -> x.best(10, i));
        }
        Check.refused(x, -2, "best(9001, NONE)", () -> x.best(9001, -1));
        Check.refused(x, -2, "soonest(1000001)", () -> x.soonest(1000001));
        Check.refused(x, -2, "order(41)", () -> x.order(41));
        Check.refused(x, -2, "vain(41)", () -> x.vain(41));
        Check.refused(x, -2, "others(301)", () -> x.others(301));
    }
}

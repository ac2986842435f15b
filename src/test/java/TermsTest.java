import java.util.Arrays;

/** The edges that the Terms name, sentence by sentence, with their numbers written out. */
public final class TermsTest {
    private static final int MIN = Integer.MIN_VALUE;
    private static final int MAX = Integer.MAX_VALUE;

    public static void main(String[] args) {
        fallsAtTheEdges();
        fallsAreCut();
        whatHoldsIsCut();
        signsAtTheEdges();
        signsInOrder();
        looksBehindSigns();
        allWeightsAreOne();
        halvesAndAsks();
        missIsCut();
        secondsAtTheEdges();
        bestRoundsEachLook();
        bestTakesTheFirst();
        nextTakesTheFirst();
        nextIsCut();
        nextOfMany();
        hearsAtTheEdges();
        ringsTakesTheLeast();
        othersAtTheEdges();
        fastAndDroveAtTheEdges();
        slowsAtTheEdges();
        piecesAtTheEdges();
        worthAtTheEdges();
        seedsWrapAround();
        drawsAtTheEdges();
        elementsWrapAround();
        lastCalls();
        Check.end();
    }

    private static Roof one(int kind, int a, int yards, int people) {
        Roof x = new Roof();
        x.bend(kind, a, yards, people);
        return x;
    }

    /** So many bends alike. */
    private static Roof many(int bends, int kind, int a, int yards, int people) {
        Roof x = new Roof();
        for (int i = 0; i < bends; i++) {
            x.bend(kind, a, yards, people);
        }
        return x;
    }

    private static void settle(Roof x, int pace, int wet, int grip) {
        x.ask(0, pace);
        x.ask(1, wet);
        x.ask(2, grip);
    }

    private static void dueAll(String what, int[] got, int... due) {
        Check.that(what + ": " + Arrays.toString(got) + ", due are " + Arrays.toString(due), Arrays.equals(got, due));
    }

    private static int[] falls(int a, int pace, int wet, int grip) {
        int[] falls = new int[6];
        for (int kind = 0; kind < 6; kind++) {
            Roof x = one(kind, a, 1, 0);
            settle(x, pace, wet, grip);
            falls[kind] = x.bendOf(0, 5);
            Check.due("fall and bendOf", x.fall(0, pace), falls[kind]);
            Check.due("FELL of the first", x.fell(0, pace), 1000 * falls[kind]);
            Check.due("HELD behind it", x.fell(-1, pace), 1000000 - 1000 * falls[kind]);
        }
        return falls;
    }

    private static void fallsAtTheEdges() {
        dueAll("least a, least PACE", falls(0, 1, 0, 0), 0, 1, 10, 2, 30, 0);
        dueAll("least a, most PACE", falls(0, 9, 0, 0), 0, 81, 10, 162, 30, 0);
        dueAll("most a, least PACE", falls(9, 1, 0, 0), 9, 10, 19, 20, 39, 9);
        dueAll("most a, most PACE", falls(9, 9, 0, 0), 81, 162, 91, 324, 111, 9);
        dueAll("the same, WET", falls(9, 9, 1, 0), 101, 182, 111, 344, 131, 29);
        dueAll("least of all, WET", falls(0, 1, 1, 0), 20, 21, 30, 22, 50, 20);
        dueAll("GRIP 10", falls(9, 9, 1, 10), 0, 0, 0, 0, 0, 0);
    }

    private static void fallsAreCut() {
        dueAll("GRIP 1", falls(9, 9, 1, 1), 90, 163, 99, 309, 117, 26);
        dueAll("GRIP 9", falls(9, 9, 1, 9), 10, 18, 11, 34, 13, 2);
        dueAll("GRIP 1, little", falls(0, 1, 0, 1), 0, 0, 9, 1, 27, 0);
        dueAll("GRIP 9, little", falls(9, 1, 0, 9), 0, 1, 1, 2, 3, 0);
    }

    private static void whatHoldsIsCut() {
        Roof x = many(14, 3, 9, 1, 0);
        settle(x, 9, 1, 0);
        int holds = 1000000;
        int[] last = {1433, 2735};
        for (int i = 0; i < 14; i++) {
            int falls = (int) (holds * 344L / 1000);
            Check.due("FELL at " + i, x.fell(i, 9), falls);
            holds -= falls;
        }
        dueAll("the last, and HELD", new int[] {x.fell(13, 9), x.fell(-1, 9)}, last);
        Roof y = one(0, 1, 1, 0);
        y.bend(3, 0, 1, 0);
        y.ask(0, 1);
        // 999000 times 2 is 1998000: nothing is cut; 997002 times 1 is, to 997.
        y.bend(0, 1, 1, 0);
        dueAll("cut at the third", new int[] {y.fell(0, 1), y.fell(1, 1), y.fell(2, 1), y.fell(-1, 1)}, 1000, 1998, 997,
                996005);
    }

    private static int[] weights(Roof x) {
        int[] weights = new int[x.status(0) + 1];
        for (int i = 0; i < weights.length; i++) {
            weights[i] = x.weight(i < weights.length - 1 ? i : -1);
        }
        return weights;
    }

    private static void signsAtTheEdges() {
        int[][] due = {{0, 14775, 8732, 961493}, {0, 0, 8732, 961493}, {0, 0, 0, 961493}, {15000, 0, 0, 0},
            {15000, 14775, 0, 0}, {15000, 14775, 8732, 0}};
        for (int i = 0; i < 6; i++) {
            Roof x = Ways.three();
            boolean is = i < 3;
            x.sign(i % 3, is, 0);
            dueAll("SURE 0 changes nothing", weights(x), 15000, 14775, 8732, 961493);
            x.sign(i % 3, is, 100);
            dueAll("SURE 100 leaves nothing, IS " + is + " at " + i % 3, weights(x), due[i]);
        }
        Roof y = Ways.three();
        y.sign(1, true, 1);
        dueAll("SURE 1", weights(y), 14850, 14627, 8732, 961493);
        y.anew();
        y.sign(1, false, 99);
        dueAll("SURE 99", weights(y), 15000, 14775, 87, 9614);
    }

    private static void signsInOrder() {
        Roof x = one(0, 1, 1, 0);
        x.ask(0, 1);
        x.sign(0, true, 67);
        x.sign(0, true, 50);
        x.sign(0, true, 99);
        // 1000 times 33, 50 and 1, cut each time: 330, 165, 1.
        dueAll("cut SIGN by SIGN", weights(x), 1, 999000);
        x.sign(0, true, 1);
        dueAll("cut to nothing", weights(x), 0, 999000);
        for (int i = 4; i < 8; i++) {
            x.sign(0, false, 50);
        }
        dueAll("as many as can be", weights(x), 0, 62437);
    }

    /** 14775 of SURE 50 is 7387 (cut), of MISS 70 is 5170 (cut); the other way about it would be 5171. */
    private static void looksBehindSigns() {
        Roof x = Ways.three();
        x.look(1, 1);
        x.sign(1, true, 50);
        Check.due("a LOOK ahead of a SIGN", x.weight(1), 5170);
        Roof y = Ways.three();
        y.sign(1, true, 50);
        y.look(1, 1);
        Check.due("a LOOK behind a SIGN", y.weight(1), 5170);
        Check.due("HELD has no MISS", y.weight(-1), 961493);
    }

    private static void allWeightsAreOne() {
        Roof x = weightOfOne();
        dueAll("few of little", new int[] {x.few(0), x.few(1), x.few(1000)}, 0, 1, 1);
        x.sign(0, false, 100);
        Check.due("all WEIGHTS", x.status(7), 1);
        dueAll("not STUCK", new int[] {x.likely(0), x.likely(-1), x.between(0, 0), x.after(0, true, 0)}, 1000, 0, 1000, 0);
        Check.refused(x, -5, "after, STUCK by SURE 1", () -> x.after(0, true, 1));
        Check.due("half", x.half(), 0);
    }

    private static void halvesAndAsks() {
        // By PACE 1: FELL 1000 of KIND 0, a 1; the rest is 999000.
        Roof x = one(0, 1, 1, 0);
        x.ask(0, 1);
        Check.due("HELD is more", x.half(), -1);
        Check.due("one BEND is nearest", x.asks(), 0);
        x.bend(0, 0, 1, 0);
        x.sign(1, false, 99);
        Check.due("HELD is more yet", x.half(), -1);
        x.sign(0, true, 1);
        x.sign(1, false, 90);
        // 990 and 0, HELD 999: 2 times 990 is less than 1989, by 9.
        dueAll("not quite", new int[] {x.weight(0), x.weight(-1), x.half()}, 990, 999, -1);
        x.sign(1, false, 1);
        // HELD 989.
        dueAll("a little more", new int[] {x.weight(-1), x.half(), x.asks()}, 989, 0, 0);
        Roof even = one(0, 1, 1, 0);
        even.ask(0, 1);
        even.bend(0, 0, 1, 0);
        even.bend(0, 1, 1, 0);
        even.sign(0, true, 1);
        even.sign(0, true, 0);
        even.sign(2, false, 100);
        // 990, 0 and 999.
        dueAll("up to the last", new int[] {even.half(), even.asks()}, 2, 0);
        even.sign(2, true, 99);
        // 9, 0 and 9.
        dueAll("just the half, of several the first", new int[] {even.weight(0), even.weight(2), even.half(), even.asks()},
                9, 9, 0, 0);
        Roof many = many(14, 0, 9, 1, 0);
        many.sign(13, false, 100);
        int up = 0;
        int bend = 0;
        while (2 * (up + many.weight(bend)) < many.status(7)) {
            up += many.weight(bend);
            bend++;
        }
        Check.due("half of 14", many.half(), bend);
        Check.that("between the first and the last", bend > 3 && bend < 10);
        boolean isNearerAhead = many.status(7) - 2 * up < 2 * (up + many.weight(bend)) - many.status(7);
        Check.due("asks of 14", many.asks(), isNearerAhead ? bend - 1 : bend);
    }

    private static void missIsCut() {
        int[][] due = {{70, 49, 34, 23, 16, 11, 7, 4, 2, 1, 0, 0}, {40, 16, 6, 2, 0, 0}, {10, 1, 0, 0}};
        for (int look = 1; look <= 3; look++) {
            Roof x = one(0, 9, 1, 0);
            Check.due("MISS at first", x.bendOf(0, 4), 100);
            Check.due("looked at, at first", x.status(11), 0);
            for (int miss : due[look - 1]) {
                Check.due("in vain", x.look(0, look), 0);
                Check.due("MISS", x.bendOf(0, 4), miss);
                Check.due("WEIGHT", x.weight(0), 270 * miss);
                Check.due("looked at", x.status(11), 1);
            }
            Check.due("nothing is to be found", x.found(0, 3), 0);
        }
    }

    private static void secondsAtTheEdges() {
        int[][] due = {{1, 1, 1, 2}, {3, 1, 1, 4}, {4, 1, 2, 5}, {9, 1, 3, 10}, {10, 2, 3, 11}, {19, 2, 5, 20},
            {20, 3, 6, 21}, {998, 100, 250, 999}, {999, 100, 250, 1000}};
        for (int[] d : due) {
            Roof x = one(0, 0, d[0], 0);
            dueAll("SECONDS by YARDS " + d[0], new int[] {x.seconds(0, 1), x.seconds(0, 2), x.seconds(0, 3)}, d[1], d[2],
                    d[3]);
        }
    }

    private static void best(Roof x, int seconds, int found, int... row) {
        int[] got = new int[row.length];
        for (int i = 0; i < row.length; i++) {
            got[i] = x.best(seconds, i);
        }
        dueAll("the row in " + seconds, got, row);
        Check.due("FOUND in " + seconds, x.best(seconds, -1), found);
    }

    private static void bestRoundsEachLook() {
        // FOOT takes 10 seconds, then 11; 9 and 10 YARDS.
        Roof ten = one(0, 9, 9, 0);
        best(ten, 9, 0, 0);
        best(ten, 10, 24300, 3);
        Roof eleven = one(0, 9, 10, 0);
        best(eleven, 11, 16200, 2);
        best(eleven, 19, 16200, 2);
        best(eleven, 20, 24300, 3);
        Check.due("ten are enough", ten.soonest(24300), 10);
        Check.due("eleven take twenty", eleven.soonest(24300), 20);
        // Each look of 2 seconds takes ten: two of them twenty.
        Roof two = one(0, 9, 1, 0);
        two.bend(0, 9, 1, 0);
        best(two, 10, 24300, 3, 0);
        best(two, 19, 24300, 3, 0);
        best(two, 20, 47943, 3, 3);
        best(two, 9000, 47943, 3, 3);
        // FOOT takes 1000 at 999 YARDS: nine of them 9000.
        Roof far = many(9, 0, 1, 999, 0);
        Check.due("nine on FOOT", far.soonest(far.best(9000, -1)), 9000);
        Check.due("more than that", far.soonest(far.best(9000, -1) + 1), -1);
        // With one more, of 6 seconds, all on FOOT take 9010, which is longer than can be.
        far.bend(0, 1, 5, 0);
        int all = 0;
        for (int i = 0; i < 10; i++) {
            all += far.found(i, 3);
        }
        Check.that("not all in 9000", far.best(9000, -1) < all);
        Check.due("all on FOOT", far.soonest(all), -1);
        Check.due("nothing was refused", far.status(12), 0);
    }

    /** Of WEIGHTS that are alike the last are looked at, as 0 comes ahead of 1. */
    private static void bestTakesTheFirst() {
        Roof y = many(2, 3, 9, 10, 0);
        y.ask(0, 1);
        y.sign(0, true, 2);
        Check.due("alike", y.weight(0), y.weight(1));
        best(y, 10, 11760, 0, 2);
        best(y, 20, 23520, 2, 2);
        best(y, 30, 29400, 2, 3);
        Roof none = many(14, 0, 0, 1, 0);
        best(none, 9000, 0, 0, 0, 0, 0, 0, 0, 0, 0, 0, 0, 0, 0, 0, 0);
        Roof all = many(14, 0, 9, 1, 0);
        int found = 0;
        for (int i = 0; i < 14; i++) {
            found += all.found(i, 3);
        }
        best(all, 140, found, 3, 3, 3, 3, 3, 3, 3, 3, 3, 3, 3, 3, 3, 3);
        Check.that("not in 130", all.best(130, -1) < found);
        best(all, 10, 24300, 3, 0, 0, 0, 0, 0, 0, 0, 0, 0, 0, 0, 0, 0);
        // WEIGHT 1: nothing is FOUND by any look, as 30, 60 and 90 of 100 are cut.
        Roof least = weightOfOne();
        best(least, 9000, 0, 0);
    }

    private static Roof weightOfOne() {
        Roof x = one(0, 1, 1, 1000);
        x.ask(0, 1);
        x.sign(0, true, 99);
        x.sign(0, true, 90);
        Check.due("WEIGHT", x.weight(0), 1);
        return x;
    }

    private static void nextTakesTheFirst() {
        // YARDS 5: DRIVE takes 1, SLOW 2, FOOT 6 seconds; 30 by 1 are as many as 60 by 2.
        Roof x = many(2, 3, 9, 5, 0);
        x.ask(0, 1);
        x.sign(0, true, 2);
        Check.due("alike", x.weight(0), x.weight(1));
        Check.due("of several the first", x.next(), 1);
        x.look(0, 1);
        Check.due("the other then", x.next(), 11);
        // YARDS 3: SLOW takes 1 second too, and finds more; FOOT takes 4.
        Roof near = one(3, 9, 3, 0);
        Check.due("SLOW in as many seconds", near.next(), 2);
        // YARDS 1: FOOT takes 2.
        Check.due("not FOOT in twice as many", one(3, 9, 1, 0).next(), 2);
        Roof last = many(13, 0, 0, 1, 0);
        last.bend(0, 9, 999, 0);
        Check.due("the last of 14", last.next(), 131);
        Roof least = weightOfOne();
        Check.due("by none more than 0", least.next(), -1);
        Check.due("no look then", least.order(0), -1);
        Check.due("nor behind 40", least.order(40), -1);
        Check.due("all WEIGHTS stay", least.vain(40), least.status(7));
        Check.due("last", least.last(), 0);
    }

    /** WEIGHT 9 at 392 YARDS: 2 in 40 seconds and 5 in 99, which is more, but both are 50 of 1000, cut. */
    private static void nextIsCut() {
        Roof x = one(5, 1, 392, 0);
        x.sign(0, true, 99);
        x.sign(0, true, 10);
        dueAll("FOUND", new int[] {x.weight(0), x.found(0, 1), x.found(0, 2), x.found(0, 3)}, 9, 2, 5, 8);
        dueAll("SECONDS", new int[] {x.seconds(0, 1), x.seconds(0, 2), x.seconds(0, 3)}, 40, 99, 393);
        Check.due("the first, as both are cut", x.next(), 1);
    }

    /** The looks that order() and vain() tell are those that one makes by NEXT. */
    private static void nextOfMany() {
        Roof x = many(14, 0, 9, 40, 0);
        Roof made = many(14, 0, 9, 40, 0);
        for (int i = 0; i <= 40; i++) {
            Check.due("vain(" + i + ")", x.vain(i), made.status(7));
            int next = made.next();
            Check.due("order(" + i + ")", x.order(i), next);
            made.look(next / 10, next % 10);
        }
        Check.due("all were looked at", made.status(11), 14);
        Check.due("none was", x.status(11), 0);
    }

    private static void hearsAtTheEdges() {
        Roof x = Ways.three();
        x.call(0, 1, 100);
        x.call(0, 1, 50);
        x.call(2, 1, 100);
        dueAll("two at one BEND, one behind", new int[] {x.hears(0), x.hears(1), x.hears(2)}, 15000, 7500, 23507);
        x.call(1, 1, 1);
        dueAll("one between", new int[] {x.hears(2), x.hears(3)}, 8732, 147);
        x.call(2, 1, 0);
        Check.due("KNOWS 0", x.hears(4), 0);
        x.call(2, 99, 100);
        Check.due("as many CALLS as can be", x.hears(5), 8732);
        x.sign(2, true, 100);
        Check.due("nothing to be heard of", x.hears(5), 0);
        Roof far = many(14, 0, 9, 1, 0);
        far.call(13, 1, 100);
        Check.due("all BENDS", far.hears(0), 1000000 - far.weight(-1));
        far.call(12, 1, 100);
        Check.due("but those up to the other", far.hears(0), far.weight(13));
    }

    private static void ringsTakesTheLeast() {
        Roof x = Ways.three();
        Check.due("no CALLS", x.rings(999), 0);
        x.call(0, 2, 0);
        x.call(0, 2, 100);
        x.call(0, 2, 100);
        dueAll("the least as bits", new int[] {x.rings(0), x.rings(1), x.rings(2), x.rings(3), x.rings(4), x.rings(999)},
                0, 0, 2, 2, 6, 6);
        Roof all = many(6, 0, 9, 1, 0);
        for (int i = 0; i < 6; i++) {
            all.call(i, 99, 100);
        }
        Check.due("all six", all.rings(594), 63);
        Check.that("five of them", Integer.bitCount(all.rings(593)) == 5);
        Check.due("the five first, as they hear more", all.rings(593), 31);
        Check.due("one", all.rings(99), 1);
        Check.due("none", all.rings(98), 0);
        all.sign(5, true, 100);
        Check.due("none hears anything", all.rings(999), 0);
    }

    private static void othersAtTheEdges() {
        Roof x = one(0, 5, 1, 1000);
        dueAll("PEOPLE 1000", new int[] {x.others(0), x.others(1), x.others(2), x.others(300)}, 0, 15000, 15000, 15000);
        Roof none = one(0, 5, 1, 0);
        dueAll("PEOPLE 0", new int[] {none.others(0), none.others(1), none.others(300)}, 0, 0, 0);
        Roof few = one(0, 5, 1, 1);
        dueAll("PEOPLE 1, cut minute by minute", new int[] {few.others(1), few.others(2), few.others(3), few.others(68)},
                15, 29, 43, 953);
        Roof most = one(0, 5, 1, 999);
        dueAll("PEOPLE 999", new int[] {most.others(1), most.others(2), most.others(300)}, 14985, 14999, 14999);
        Check.due("a WEIGHT of 1, PEOPLE 1000", weightOfOne().others(1), 1);
        Check.due("without BENDS", new Roof().others(300), 0);
    }

    private static void fastAndDroveAtTheEdges() {
        Roof x = one(3, 9, 1, 0);
        for (int pace = 1; pace <= 9; pace++) {
            int held = x.fell(-1, pace);
            Check.due("as much as by PACE " + pace, x.fast(held), pace);
            Check.due("more than by PACE " + pace, x.fast(held + 1), pace == 1 ? -1 : pace - 1);
        }
        Check.due("v 0", x.fast(0), 9);
        Check.due("v 1,000,000", x.fast(1000000), -1);
        Check.due("drove", x.drove(0), 9);
        for (int grip = 0; grip <= 10; grip++) {
            Roof y = one(3, 9, 1, 0);
            y.ask(2, grip);
            int held = y.fell(-1, 3);
            Check.due("as much as with GRIP " + grip, y.gripFor(held), grip);
            if (grip < 10) {
                Check.due("more than with GRIP " + grip, y.gripFor(held + 1), grip + 1);
            }
        }
        Check.due("v 0", x.gripFor(0), 0);
        // The further behind, the more a high PACE has fallen ahead.
        Roof hairpins = many(14, 3, 9, 1, 0);
        int[] drove = new int[14];
        for (int i = 0; i < 14; i++) {
            drove[i] = hairpins.drove(i);
            for (int pace = 1; pace <= 9; pace++) {
                Check.that("none more", hairpins.fell(i, pace) <= hairpins.fell(i, drove[i]));
                Check.that("none ahead as much", pace >= drove[i] || hairpins.fell(i, pace) < hairpins.fell(i, drove[i]));
            }
        }
        dueAll("drove", drove, 9, 9, 9, 8, 6, 6, 5, 5, 4, 4, 4, 3, 3, 3);
        Check.due("of several the least", one(5, 9, 1, 0).drove(0), 1);
    }

    private static void slowsAtTheEdges() {
        Roof x = many(14, 3, 0, 1, 0);
        x.ask(0, 1);
        dueAll("by PACE 1 none is slower", new int[] {x.slows(0), x.slows(1), x.slows(3)}, 0, 0, 0);
        x.ask(0, 2);
        Check.due("no BENDS may be", x.slows(0), 0);
        Check.that("by PACE 2 some are", x.slows(1) != 0);
        int[] counts = {0, 1, 2, 3};
        for (int k : counts) {
            Check.due("as many as may be", Integer.bitCount(x.slows(k)), k);
        }
        Roof one = one(0, 1, 1, 0);
        one.ask(0, 2);
        dueAll("of one BEND", new int[] {one.slows(0), one.slows(1), one.slows(2), one.slows(3)}, 0, 1, 1, 1);
        Roof last = many(13, 5, 9, 1, 0);
        last.bend(0, 1, 1, 0);
        last.ask(0, 9);
        dueAll("the last of 14", new int[] {last.slows(0), last.slows(1), last.slows(3)}, 0, 1 << 13, 1 << 13);
        Roof dry = many(14, 0, 9, 1, 0);
        dry.ask(2, 10);
        Check.due("with GRIP 10 none gains", dry.slows(3), 0);
        Check.due("without BENDS", new Roof().slows(3), 0);
    }

    private static void piecesAtTheEdges() {
        Roof x = many(14, 0, 1, 999, 0);
        Ways.tell(x, 0, 0, 0, 13, 13);
        Check.due("the first and the last BEND", x.judge(0, 4), -1);
        Check.due("from the first to the last", x.apart(0, 4), 13 * 999);
        Check.due("one BEND, two pieces", x.apart(0, 2), 0);
        Check.due("one piece", x.apart(0, 1), 0);
        Check.due("no piece", x.apart(0, 0), 0);
        Ways.tell(x, 1, 13, 12);
        Check.due("ahead of the one before", x.judge(1, 2), 1);
        Ways.tell(x, 2, 14);
        Check.due("none", x.judge(2, 1), 0);
        Ways.tell(x, 3, -1);
        Check.due("none", x.judge(3, 1), 0);
        Ways.tell(x, 4, 5, 14, 3);
        Check.due("the first of two", x.judge(4, 3), 1);
        x.row(5, 2, 40);
        Check.due("as many as can be", x.judge(5, 40), -1);
        x.set(5, 38, 13);
        Check.due("the last is ahead of the one before", x.judge(5, 40), 39);
        Check.due("none ahead of it is WRONG", x.judge(5, 39), -1);
        Check.due("which is far", x.apart(5, 39), 13 * 999);
        long[] big = {1L << 32, Long.MAX_VALUE, Long.MIN_VALUE, (1L << 32) + 5, -(1L << 32)};
        for (long v : big) {
            x.row(6, 3, 2);
            x.set(6, 0, 1);
            x.set(6, 1, v);
            Check.due("of longs", x.judge(6, 2), 1);
            Check.refused(x, -5, "apart of longs", () -> x.apart(6, 2));
            Check.refused(x, -5, "search of longs", () -> x.search(6, 2, 1));
        }
        Ways.tell(x, 7, 1, 131, 133);
        Check.due("a search at the first and the last", x.search(7, 3, 0), 100 + 100 + 1000);
        int found = x.found(13, 1);
        int then = x.weight(13) * 70 / 100 * 90 / 100;
        Check.due("each in vain ahead of the next", x.search(7, 3, 1), x.found(0, 1) + found + then);
        Ways.tell(x, 7, 102);
        Check.due("a search at BEND 10", x.search(7, 1, 1), x.found(10, 2));
        Ways.tell(x, 7, 141);
        Check.refused(x, -5, "a search at BEND 14", () -> x.search(7, 1, 1));
    }

    private static void worthAtTheEdges() {
        Roof x = many(14, 3, 9, 1, 0);
        settle(x, 9, 1, 0);
        Check.due("HELD", x.fell(-1, 9), 2735);
        Check.due("the most", x.worth(999, 999, 0), 995271);
        Check.due("the least", x.worth(0, 0, 9999), -9999);
        Check.due("at the most cost", x.worth(999, 999, 9999), 985272);
        Check.due("one trip at price 1, cut", x.worth(1, 1, 0), 0);
        Check.due("cut ahead of the cost", x.worth(1, 1, 1), -1);
        Check.due("two", x.worth(1, 2, 0), 1);
        Check.due("nothing falls", new Roof().worth(999, 999, 9999), -9999);
        Check.due("once", x.once(1), 997265);
        Check.due("once in two", x.once(2), 999993);
        Check.due("once in three", x.once(3), 1000000);
        Check.due("until", x.until(1000000), 3);
        Check.due("until 0", x.until(0), 0);
        Check.due("until 1", x.until(1), 1);
    }

    private static void seedsWrapAround() {
        int[] seeds = {1, 0, -1, MIN, MAX, 65535, 1 << 16, 0x5EED5EED, -12345};
        for (int seed : seeds) {
            Roof x = many(14, 0, 0, 1, 0);
            Check.due("SEED at first", x.seed(seed), 1);
            Check.due("it holds by FALL 0", x.drive(), 0);
            long wrapped = seed;
            for (int i = 0; i < 14; i++) {
                wrapped = wrapped * 1103515245L + 12345L & 0xFFFFFFFFL;
            }
            Check.due("SEED behind 14 DRAWS from " + seed, x.status(9), (int) wrapped);
            Check.due("SEED told", x.seed(seed), (int) wrapped);
        }
    }

    /** A SEED whose next DRAW below n is so much. */
    private static int seedFor(int n, int draw) {
        for (int seed = 0; seed < 1000000; seed++) {
            long next = seed * 1103515245L + 12345L & 0xFFFFFFFFL;
            if ((next >> 16) % n == draw) {
                return seed;
            }
        }
        throw new IllegalStateException("no seed for " + draw);
    }

    /** A SEED whose next has its highest bit set, and whose DRAW below n is below so much. */
    private static int highSeedFor(int n, int below) {
        for (int seed = 0; seed < 1000000; seed++) {
            long next = seed * 1103515245L + 12345L & 0xFFFFFFFFL;
            if (next >> 31 == 1 && (next >> 16) % n < below) {
                return seed;
            }
        }
        throw new IllegalStateException("no seed below " + below);
    }

    private static void drawsAtTheEdges() {
        // FALL by PACE 9: 0, 162, 324, 111.
        int[][] ways = {{0, 0}, {1, 9}, {3, 9}, {4, 9}};
        for (int[] w : ways) {
            Roof x = one(w[0], w[1], 1, 0);
            x.ask(0, 9);
            int fall = x.fall(0, 9);
            if (fall > 0) {
                x.seed(seedFor(1000, fall - 1));
                Check.due("a DRAW of FALL less 1", x.drive(), 1);
                Check.due("LIES", x.status(6), 0);
                x.seed(highSeedFor(1000, fall));
                Check.due("of 16 bits without a sign", x.drive(), 1);
            }
            x.seed(seedFor(1000, fall));
            Check.due("a DRAW of FALL", x.drive(), 0);
            Check.due("LIES", x.status(6), -1);
            x.seed(seedFor(1000, 999));
            Check.due("the greatest DRAW", x.drive(), 0);
        }
        int[] sees = {30, 60, 90};
        for (int look = 1; look <= 3; look++) {
            Roof x = Ways.three();
            x.lies(1);
            x.seed(seedFor(100, 0));
            Check.due("the least DRAW", x.look(1, look), 1);
            x.seed(seedFor(100, sees[look - 1] - 1));
            Check.due("the last that finds", x.look(1, look), 1);
            x.seed(highSeedFor(100, sees[look - 1]));
            Check.due("of 16 bits without a sign", x.look(1, look), 1);
            Check.due("MISS yet", x.bendOf(1, 4), 100);
            x.seed(seedFor(100, sees[look - 1]));
            Check.due("the first in vain", x.look(1, look), 0);
            Check.due("MISS then", x.bendOf(1, 4), 100 - sees[look - 1]);
            x.seed(seedFor(100, 99));
            Check.due("the greatest DRAW", x.look(1, look), 0);
        }
    }

    private static void elementsWrapAround() {
        long[][] due = {
            {0, 0, 0, 0, 0, 0}, {1, 1, 1, 1, 1, 1}, {-1, -1, -1, -1, -1, 1}, {2, 2, 2, 2, 2, 1},
            {127, 127, 127, 127, 127, 1}, {128, -128, 128, 128, 128, 1}, {-128, -128, -128, -128, -128, 1},
            {-129, 127, -129, -129, -129, 1}, {255, -1, 255, 255, 255, 1}, {256, 0, 256, 256, 256, 1},
            {32767, -1, 32767, 32767, 32767, 1}, {32768, 0, -32768, 32768, 32768, 1},
            {-32769, -1, 32767, -32769, -32769, 1}, {65536, 0, 0, 65536, 65536, 1}, {MAX, -1, -1, MAX, MAX, 1},
            {MAX + 1L, 0, 0, MIN, MAX + 1L, 1}, {MIN - 1L, -1, -1, MAX, MIN - 1L, 1}, {1L << 32, 0, 0, 0, 1L << 32, 1},
            {Long.MAX_VALUE, -1, -1, -1, Long.MAX_VALUE, 1}, {Long.MIN_VALUE, 0, 0, 0, Long.MIN_VALUE, 1}};
        for (long[] d : due) {
            for (int sort = 0; sort <= 4; sort++) {
                Roof x = new Roof();
                x.row(7, sort, 40);
                x.row(6, sort, 40);
                Check.due("an element at first", x.element(7, 39), 0);
                Check.due("set", x.set(7, 39, d[0]), 1);
                Check.due(d[0] + " in SORT " + sort, x.element(7, 39), d[sort + 1]);
                Check.due("the one ahead", x.element(7, 38), 0);
                x.copy(7, 6, 39, 0, 1);
                Check.due("copied", x.element(6, 0), d[sort + 1]);
            }
        }
    }

    /** The 512th call answers as any other. */
    private static void lastCalls() {
        Roof x = Ways.three();
        for (int i = 4; i <= 509; i++) {
            x.weight(i % 3);
        }
        Check.due("call 510", x.likely(-1), 961);
        Check.due("call 511", x.feed(65), 1);
        Check.due("call 512", x.best(440, -1), 34655);
    }
}

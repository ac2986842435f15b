/** What calls answer where there is nothing, and where there is as much as can be. */
public final class EmptyAndFullTest {
    public static void main(String[] args) {
        noBends();
        noBendOfThatNumber();
        noSigns();
        noCalls();
        emptyShelves();
        emptyRows();
        fullRows();
        fullShelves();
        fullWay();
        anewMakesRoom();
        backMakesRoom();
        Check.end();
    }

    private static void noBends() {
        Roof x = new Roof();
        Check.due("weight", x.weight(-1), 1000000);
        Check.due("likely", x.likely(-1), 1000);
        Check.due("fell", x.fell(-1, 1), 1000000);
        Check.due("half", x.half(), -1);
        Check.due("few 0", x.few(0), 0);
        Check.due("few 1000", x.few(1000), 0);
        Check.due("next", x.next(), -1);
        Check.due("order", x.order(40), -1);
        Check.due("vain", x.vain(40), 1000000);
        Check.due("best", x.best(9000, -1), 0);
        Check.due("soonest 0", x.soonest(0), 0);
        Check.due("soonest 1", x.soonest(1), -1);
        Check.due("others", x.others(300), 0);
        Check.due("fast", x.fast(1000000), 9);
        Check.due("gripFor", x.gripFor(1000000), 0);
        Check.due("otherwise", x.otherwise(), 1000000);
        Check.due("slows", x.slows(3), 0);
        Check.due("once", x.once(999), 0);
        Check.due("until 0", x.until(0), 0);
        Check.due("until 1", x.until(1), -1);
        Check.due("last", x.last(), -1);
        Check.due("rings", x.rings(999), 0);
        Check.due("worth", x.worth(999, 999, 1), -1);
        Check.due("lies", x.lies(-1), -1);
        Check.due("drive", x.drive(), 0);
        Check.due("trips", x.trips(99), 0);
        Check.due("no DRAW", x.status(9), 1);
        Check.due("anew", x.anew(), 0);
        Check.due("all YARDS", x.status(5), 0);
        Check.due("all WEIGHTS", x.status(7), 1000000);
        for (int what = 12; what <= 16; what++) {
            Check.due("nothing was refused", x.status(what), 0);
        }
        Check.refused(x, -5, "asks", x::asks);
        Check.refused(x, -5, "where", x::where);
        Check.refused(x, -5, "worst", x::worst);
    }

    private static void noBendOfThatNumber() {
        Roof x = new Roof();
        Check.refused(x, -2, "show", () -> x.show(0, 0));
        Check.refused(x, -2, "sign", () -> x.sign(0, true, 0));
        Check.refused(x, -2, "bendOf", () -> x.bendOf(0, 0));
        Check.refused(x, -2, "fall", () -> x.fall(0, 1));
        Check.refused(x, -2, "fell", () -> x.fell(0, 1));
        Check.refused(x, -2, "weight", () -> x.weight(0));
        Check.refused(x, -2, "likely", () -> x.likely(0));
        Check.refused(x, -2, "between", () -> x.between(0, 0));
        Check.refused(x, -2, "after", () -> x.after(0, true, 0));
        Check.refused(x, -2, "seconds", () -> x.seconds(0, 1));
        Check.refused(x, -2, "found", () -> x.found(0, 1));
        Check.refused(x, -2, "best", () -> x.best(0, 0));
        Check.refused(x, -2, "drove", () -> x.drove(0));
        Check.refused(x, -2, "without", () -> x.without(0));
        Check.refused(x, -2, "call", () -> x.call(0, 1, 0));
        Check.refused(x, -2, "lies", () -> x.lies(0));
        Check.refused(x, -2, "look", () -> x.look(0, 1));
    }

    private static void noSigns() {
        Roof x = Ways.three();
        Check.refused(x, -2, "signOf", () -> x.signOf(0, 0));
        Check.due("anew", x.anew(), 0);
        Check.due("a SIGN", x.sign(0, true, 5), 1);
        Check.due("its SURE", x.signOf(0, 2), 5);
        Check.refused(x, -2, "signOf", () -> x.signOf(1, 0));
        x.anew();
        Check.refused(x, -2, "signOf what was there", () -> x.signOf(0, 0));
    }

    private static void noCalls() {
        Roof x = Ways.three();
        Check.refused(x, -2, "callOf", () -> x.callOf(0, 0));
        Check.refused(x, -2, "hears", () -> x.hears(0));
        Check.due("rings", x.rings(999), 0);
    }

    private static void emptyShelves() {
        Roof x = Ways.three();
        for (int s = 0; s < 8; s++) {
            int shelf = s;
            Check.due("holds", x.holds(s), -1);
            Check.due("element", x.element(s, 0), 0);
            Check.refused(x, -4, "set", () -> x.set(shelf, 0, 1));
            Check.refused(x, -4, "copy", () -> x.copy(shelf, shelf, 0, 0, 0));
            Check.refused(x, -4, "says", () -> x.says(shelf, 0));
            Check.refused(x, -4, "judge", () -> x.judge(shelf, 0));
            Check.refused(x, -4, "apart", () -> x.apart(shelf, 0));
            Check.refused(x, -4, "search", () -> x.search(shelf, 0, 0));
        }
        Check.due("show NOTHING where there is NOTHING", x.show(7, -1), 1);
        Check.due("none holds anything", x.status(10), 0);
    }

    private static void emptyRows() {
        for (int sort = 0; sort <= 4; sort++) {
            Roof x = Ways.three();
            Check.due("an empty ROW", x.row(7, sort, 0), 1);
            Check.due("is something", x.status(10), 1);
            Check.due("holds", x.holds(7), sort);
            Check.due("element", x.element(7, 0), 0);
            Check.refused(x, -2, "set", () -> x.set(7, 0, 1));
            Check.due("copy none", x.copy(7, 7, 0, 0, 0), 0);
            Check.refused(x, -2, "copy one", () -> x.copy(7, 7, 0, 0, 1));
            Check.refused(x, -2, "copy none from place 1", () -> x.copy(7, 7, 1, 0, 0));
            Check.due("judge", x.judge(7, 0), -1);
            Check.due("apart", x.apart(7, 0), 0);
            Check.due("search, SECONDS", x.search(7, 0, 0), 0);
            Check.due("search, FOUND", x.search(7, 0, 1), 0);
            Check.refused(x, -2, "judge one", () -> x.judge(7, 1));
            Check.refused(x, -2, "apart one", () -> x.apart(7, 1));
            Check.refused(x, -2, "search one", () -> x.search(7, 1, 0));
        }
    }

    private static void fullRows() {
        for (int sort = 0; sort <= 4; sort++) {
            Roof x = Ways.three();
            Check.due("a full ROW", x.row(0, sort, 40), 1);
            for (int i = 0; i < 40; i++) {
                Check.due("at first", x.element(0, i), 0);
                Check.due("set", x.set(0, i, 1), 1);
            }
            for (int i = 0; i < 40; i++) {
                Check.due("element", x.element(0, i), 1);
            }
            Check.due("behind the last", x.element(0, 40), 0);
            Check.refused(x, -2, "set behind the last", () -> x.set(0, 40, 1));
            Check.due("judge", x.judge(0, 40), -1);
            Check.due("apart", x.apart(0, 40), 0);
            Check.due("search, SECONDS", x.search(0, 40, 0), 40 * 11);
            // 15000 at BEND 0: 70, 49, 34, 23, 16, 11, 7, 4, 2, 1, 0 of 100 are left, 30 of 100 of it are FOUND.
            Check.due("search, FOUND", x.search(0, 40, 1), 45 * (100 + 70 + 49 + 34 + 23 + 16 + 11 + 7 + 4 + 2 + 1));
        }
    }

    private static void fullShelves() {
        Roof x = Ways.three();
        for (int s = 0; s < 8; s++) {
            if (s % 2 == 0) {
                x.row(s, s / 2, 40);
            } else {
                x.show(s, s % 3);
            }
            Check.due("SHELVES that hold something", x.status(10), s + 1);
        }
        Check.due("something else there", x.row(7, 4, 0), 1);
        Check.due("as many", x.status(10), 8);
        Check.due("NOTHING there", x.show(0, -1), 1);
        Check.due("one less", x.status(10), 7);
        Check.due("the others stay", x.holds(2), 1);
        Check.due("the others stay", x.holds(1), 11);
    }

    private static void fullWay() {
        Roof x = Ways.even(14, 999);
        for (int i = 1; i <= 8; i++) {
            Check.due("sign", x.sign(13, i % 2 == 0, i), i);
        }
        for (int i = 0; i < 6; i++) {
            Check.due("call", x.call(13, 99, 100), i);
        }
        Check.due("BENDS", x.status(0), 14);
        Check.due("SIGNS", x.status(1), 8);
        Check.due("CALLS", x.status(17), 6);
        Check.due("all YARDS", x.status(5), 14 * 999);
        Check.due("YARDS to the last", x.bendOf(13, 6), 14 * 999);
        Check.due("YARDS to the first", x.bendOf(0, 6), 999);
        Check.refused(x, -6, "a BEND more", () -> x.bend(0, 1, 1, 1));
        Check.refused(x, -6, "a SIGN more", () -> x.sign(0, true, 1));
        Check.refused(x, -6, "a CALL more", () -> x.call(0, 1, 1));
        Check.refused(x, -6, "after a SIGN more", () -> x.after(0, true, 1));
        Check.due("the last SIGN", x.signOf(7, 2), 8);
        Check.due("the last CALL", x.callOf(5, 0), 13);
        for (int i = 0; i < 14; i++) {
            x.look(i, 3);
        }
        Check.due("BENDS that were looked at", x.status(11), 14);
        Check.due("anew", x.anew(), 8);
        Check.due("BENDS that were looked at", x.status(11), 0);
        Check.due("BENDS stay", x.status(0), 14);
        Check.due("CALLS stay", x.status(17), 6);
    }

    private static void anewMakesRoom() {
        Roof x = Ways.three();
        for (int i = 1; i <= 8; i++) {
            x.sign(0, true, 1);
        }
        Check.due("SIGNS there were", x.anew(), 8);
        Check.due("the first again", x.sign(1, false, 2), 1);
        Check.due("its BEND", x.signOf(0, 0), 1);
        Check.due("its IS", x.signOf(0, 1), 0);
        Check.due("its SURE", x.signOf(0, 2), 2);
        for (int i = 2; i <= 8; i++) {
            x.sign(0, true, 1);
        }
        x.drive();
        Check.due("the first again, behind a DRIVE", x.sign(1, false, 2), 1);
    }

    private static void backMakesRoom() {
        Roof x = Ways.even(13, 1);
        x.image();
        Check.due("the 14th", x.bend(3, 9, 7, 6), 13);
        for (int i = 0; i < 6; i++) {
            x.call(13, 1, 1);
        }
        for (int i = 0; i < 8; i++) {
            x.sign(13, true, 1);
        }
        x.lies(13);
        x.show(6, 13);
        x.show(7, 12);
        Check.due("back", x.back(), 1);
        Check.due("BENDS", x.status(0), 13);
        Check.due("SIGNS", x.status(1), 0);
        Check.due("CALLS", x.status(17), 0);
        Check.due("LIES", x.status(6), -1);
        Check.due("no BEND of that number", x.holds(6), -1);
        Check.due("the last there is", x.holds(7), 22);
        Check.due("the 14th again", x.bend(5, 1, 2, 3), 13);
        Check.due("its MISS", x.bendOf(13, 4), 100);
        Check.due("its YARDS", x.bendOf(13, 2), 2);
        Check.due("the first CALL again", x.call(13, 2, 2), 0);
        Check.due("the first SIGN again", x.sign(13, true, 2), 1);
    }
}

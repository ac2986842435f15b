/** Objects that several tests begin with, and short ways to make calls on them. */
final class Ways {
    private Ways() {
    }

    /**
     * Three bends by PACE 3, dry, with GRIP 0. FALL: 15, 15, 9. FELL: 15000, 14775, 8732; HELD: 961493. Their
     * looks take 11, 26, 101; 26, 63, 251; 7, 16, 61 seconds.
     */
    static Roof three() {
        Roof x = new Roof();
        x.bend(0, 5, 100, 10);
        x.bend(1, 2, 250, 500);
        x.bend(5, 9, 60, 1000);
        return x;
    }

    /** Three bends, and the WEIGHT of HELD is 0: 38507 is left in all. */
    static Roof threeFallen() {
        Roof x = three();
        x.sign(2, false, 100);
        return x;
    }

    /** So many bends of KIND 0, a 1, so many yards each. */
    static Roof even(int bends, int yards) {
        Roof x = new Roof();
        for (int i = 0; i < bends; i++) {
            x.bend(0, 1, yards, 100);
        }
        return x;
    }

    /** A SHELF gets a ROW of ints. */
    static void tell(Roof x, int s, int... values) {
        x.row(s, 2, values.length);
        for (int i = 0; i < values.length; i++) {
            x.set(s, i, values[i]);
        }
    }

    static void feedAll(Roof x, String text) {
        for (int i = 0; i < text.length(); i++) {
            x.feed(text.charAt(i));
        }
    }

    static int read(Roof x, String text) {
        feedAll(x, text);
        return x.way();
    }

    /** The answers of all calls that change nothing, as one text. */
    static String picture(Roof x) {
        StringBuilder all = new StringBuilder();
        for (int what = 0; what <= 11; what++) {
            all.append(x.status(what)).append(' ');
        }
        all.append(x.status(17)).append('\n');
        for (int bend = 0; bend < x.status(0); bend++) {
            for (int what = 0; what <= 6; what++) {
                all.append(x.bendOf(bend, what)).append(' ');
            }
            all.append(x.weight(bend)).append(';');
        }
        for (int i = 0; i < x.status(1); i++) {
            all.append(x.signOf(i, 0)).append(' ').append(x.signOf(i, 1)).append(' ').append(x.signOf(i, 2)).append(';');
        }
        for (int i = 0; i < x.status(17); i++) {
            all.append(x.callOf(i, 0)).append(' ').append(x.callOf(i, 1)).append(' ').append(x.callOf(i, 2)).append(';');
        }
        for (int s = 0; s < 8; s++) {
            int held = x.holds(s);
            all.append('\n').append(held).append(':');
            for (int i = 0; i < 40 && held >= 0 && held <= 4; i++) {
                all.append(x.element(s, i)).append(',');
            }
        }
        return all.toString();
    }
}

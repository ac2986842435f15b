/** The edges of THE TAPE and of what may be written on it: each number of each STATEMENT, each TOKEN, each end. */
public final class TextEdgesTest {
    /** A STATEMENT with its numbers, each of them at its least; then each number's least and most. */
    private record Form(String word, int[] least, int[] most) {
    }

    private static final Form[] FORMS = {
        new Form("bend", new int[] {0, 0, 1, 0}, new int[] {5, 9, 999, 1000}),
        new Form("pace", new int[] {1}, new int[] {9}),
        new Form("wet", new int[] {0}, new int[] {1}),
        new Form("grip", new int[] {0}, new int[] {10}),
        new Form("seen", new int[] {0, 0}, new int[] {2, 100}),
        new Form("gone", new int[] {0, 0}, new int[] {2, 100}),
        new Form("call", new int[] {0, 1, 0}, new int[] {2, 99, 100}),
        new Form("look", new int[] {0, 0}, new int[] {2, 2})};

    public static void main(String[] args) {
        numbers();
        tooFewAndTooMany();
        bytesThatBeginNone();
        digits();
        words();
        emptyAndFullTape();
        lastRoom();
        roomGoesAhead();
        bendsAreThereInOrder();
        looksOfEachWay();
        emptyEitherWay();
        Check.end();
    }

    private static String text(Form form, int place, int value, String before) {
        StringBuilder text = new StringBuilder(form.word);
        for (int i = 0; i < form.least.length; i++) {
            if (i == place) {
                text.append(before);
            }
            text.append(' ').append(i == place ? value : form.least[i]);
        }
        return text.toString();
    }

    /** Where the number begins. */
    private static int placeOf(Form form, int place) {
        int at = form.word.length() + 1;
        for (int i = 0; i < place; i++) {
            at += String.valueOf(form.least[i]).length() + 1;
        }
        return at;
    }

    private static void isWay(String text, int statements) {
        Roof x = Ways.three();
        Check.due(text, Ways.read(x, text), statements);
        Check.due(text + ", THE TAPE", x.status(8), 0);
        Check.due(text + ", refused", x.status(12), 0);
    }

    private static void isFault(String text, int place) {
        Roof x = Ways.three();
        x.sign(1, true, 5);
        x.look(1, 2);
        x.call(1, 1, 1);
        x.image();
        Check.refusedAs(x, -2, -20 - place, text, () -> Ways.read(x, text));
    }

    private static void numbers() {
        for (Form form : FORMS) {
            for (int i = 0; i < form.least.length; i++) {
                isWay(text(form, i, form.least[i], ""), 1);
                isWay(text(form, i, form.most[i], ""), 1);
                isFault(text(form, i, form.most[i] + 1, ""), placeOf(form, i));
                isFault(text(form, i, 9999, ""), placeOf(form, i));
                if (form.least[i] > 0) {
                    isFault(text(form, i, form.least[i] - 1, ""), placeOf(form, i));
                }
                isFault(text(form, i, form.most[i] + 1, "  "), placeOf(form, i) + 2);
            }
        }
    }

    private static void tooFewAndTooMany() {
        for (Form form : FORMS) {
            String whole = text(form, -1, 0, "");
            isWay(whole + ";" + whole, 2);
            isFault(whole + ";" + whole + ";", 2 * whole.length() + 2);
            isFault(whole + " 0", whole.length() + 1);
            isFault(whole + " " + form.word, whole.length() + 1);
            isFault(whole + form.word, whole.length());
            isFault(whole + ";;" + whole, whole.length() + 1);
            isFault(";" + whole, 0);
            for (int i = 0; i < form.least.length; i++) {
                String part = whole.substring(0, placeOf(form, i) - 1);
                isFault(part, part.length());
                isFault(part + "  ", part.length() + 2);
                isFault(part + ";", part.length());
                isFault(part + " ;" + whole, part.length() + 1);
                isFault(part + "pace 4", i == 0 ? 0 : part.length());
                isFault(part + " x", part.length() + 1);
            }
        }
    }

    /** All bytes but letters, digits, ; and blanks. */
    private static void bytesThatBeginNone() {
        for (int b = 0; b <= 255; b++) {
            boolean isToken = b >= 'a' && b <= 'z' || b >= '0' && b <= '9' || b == ';' || b == ' ';
            String name = "byte " + b;
            Roof x = Ways.three();
            Check.due(name + " ahead", Ways.read(x, (char) b + "wet 1"), b == ' ' ? 1 : -20);
            Check.due(name + " behind", Ways.read(x, "wet 1" + (char) b), faultBehind(b));
            Check.due(name + " between", Ways.read(x, "wet" + (char) b + "1"), b == '0' || b == ' ' ? 1
                    : b >= 'a' && b <= 'z' ? -20 : -23);
            Check.due(name + " alone", Ways.read(x, "" + (char) b), b == ' ' ? -21 : -20);
            if (!isToken) {
                isFault("pace 4;" + (char) b, 7);
                isFault("pace 4 " + (char) b, 7);
                isFault("pace " + (char) b, 5);
                isFault("" + (char) b + (char) b, 0);
            }
        }
    }

    /** Of a byte behind "wet 1". */
    private static int faultBehind(int b) {
        if (b == ' ') {
            return 1;
        }
        if (b == ';') {
            return -26;
        }
        // A digit more makes another NUMBER of it, which begins at 4.
        return b >= '0' && b <= '9' ? -24 : -25;
    }

    private static void digits() {
        isWay("pace 9", 1);
        isWay("pace 09", 1);
        isWay("pace 009", 1);
        isWay("pace 0009", 1);
        isFault("pace 00009", 5);
        isFault("pace 000000000000000000000000000009", 5);
        isFault("pace 4294967297", 5);
        isFault("pace 10001", 5);
        isFault("bend 0 0 1 9999", 11);
        isFault("bend 0 0 1 10000", 11);
        isWay("bend 0005 0009 0999 1000", 1);
        isFault("grip 00000", 5);
    }

    /** A WORD is as long as can be, and so is a NUMBER. */
    private static void words() {
        isWay("pace4;pace 5;bend0 1 2 3", 3);
        isFault("pace4pace5", 5);
        isFault("pacepace 5", 0);
        isFault("pac e 5", 0);
        isFault("pace 4 ; pac", 9);
        isFault("4pace", 0);
        isFault("bend 01 2 3", 11);
        isFault("bend 0 1 2 3 4", 13);
        String[] others = {"a", "z", "bens", "bendd", "wett", "we", "gri", "see", "goner", "cal", "calls", "looks", "kool",
            "bent", "bind", "pack", "wit", "grin", "seed", "gold", "cell", "lock", "none", "sharp", "hold"};
        for (String other : others) {
            isFault(other + " 0 0 1 0", 0);
            isFault("wet 0;" + other, 6);
        }
    }

    private static String blanks(int n) {
        return " ".repeat(n);
    }

    private static void emptyAndFullTape() {
        isFault("", 0);
        isFault(" ", 1);
        isFault(blanks(250), 250);
        isWay(blanks(244) + "pace 9", 1);
        isWay("pace" + blanks(245) + "9", 1);
        isWay("pace 9" + blanks(244), 1);
        isFault("pace" + blanks(246), 250);
        isFault(blanks(249) + ";", 249);
        isFault("wet1" + blanks(245) + ";", 250);
        isFault("a".repeat(250), 0);
        isFault("1".repeat(250), 0);
        isFault("pace" + "1".repeat(246), 4);
        isFault(";".repeat(250), 0);
        isFault("wet1;".repeat(50), 250);
        isWay("wet1;".repeat(49) + "wet0 ", 50);
        Roof x = new Roof();
        Ways.feedAll(x, "wet1;".repeat(50));
        Check.due("a full TAPE", x.status(8), 250);
        Check.refused(x, -6, "a byte more", () -> x.feed('w'));
        Check.due("wipe a full TAPE", x.wipe(), 250);
        Check.due("wipe an empty TAPE", x.wipe(), 0);
        Check.due("the first byte again", x.feed(255), 1);
    }

    private static void lastRoom() {
        String bend = "bend0 0 1 0;";
        Roof bends = new Roof();
        Check.due("14 BENDS", Ways.read(bends, bend.repeat(13) + "bend0 0 1 0"), 14);
        Check.due("14 BENDS", bends.status(0), 14);
        Check.due("a 15th", Ways.read(bends, "bend 0 0 1 0"), -20);
        Roof more = new Roof();
        Check.due("15 BENDS", Ways.read(more, bend.repeat(14) + "bend0 0 1 0"), -20 - 14 * 12);
        Check.due("no BENDS", more.status(0), 0);
        Roof signs = Ways.three();
        Check.due("8 SIGNS", Ways.read(signs, "seen 0 1;gone 0 1;".repeat(3) + "seen 0 1;gone 0 1"), 8);
        Check.due("8 SIGNS", signs.status(1), 8);
        Check.due("a 9th", Ways.read(signs, "wet 1;gone 0 1"), -26);
        signs.anew();
        Check.due("9 SIGNS", Ways.read(signs, "seen 0 1;gone 0 1;".repeat(4) + "seen 0 1"), -20 - 72);
        Check.due("no SIGNS", signs.status(1), 0);
        Roof calls = Ways.three();
        Check.due("6 CALLS", Ways.read(calls, "call 0 1 1;".repeat(5) + "call 0 1 1"), 6);
        Check.due("6 CALLS", calls.status(17), 6);
        Check.due("a 7th", Ways.read(calls, "  call 0 1 1"), -22);
        Check.due("7 CALLS", Ways.read(Ways.three(), "call 0 1 1;".repeat(6) + "call 0 1 1"), -20 - 66);
        Check.due("any number of LOOKS", Ways.read(calls, "look 0 1;".repeat(20) + "look 0 1"), 21);
    }

    /** The word that there is no room for is the FAULT, whatever comes behind it. */
    private static void roomGoesAhead() {
        String[] behind = {"", " ", " 9 9 9 9", " x", ";", " 0 0 1 0", "#"};
        Roof full = Ways.even(14, 1);
        for (int i = 0; i < 8; i++) {
            full.sign(0, true, 0);
        }
        for (int i = 0; i < 6; i++) {
            full.call(0, 1, 1);
        }
        for (String rest : behind) {
            String[] words = {"bend", "seen", "gone", "call"};
            for (String word : words) {
                Check.refusedAs(full, -2, -20, word + rest, () -> Ways.read(full, word + rest));
            }
        }
        Check.due("a LOOK, wherever there is no room", Ways.read(full, "look 13 2;pace 2;wet 1;grip 3"), 4);
        Check.due("none as FULL", full.status(16), 0);
    }

    private static void bendsAreThereInOrder() {
        Roof x = new Roof();
        Check.due("a SIGN ahead of its BEND", Ways.read(x, "seen 0 5;bend 0 0 1 0"), -25);
        Check.due("a CALL ahead of its BEND", Ways.read(x, "call 0 5 5;bend 0 0 1 0"), -25);
        Check.due("a LOOK ahead of its BEND", Ways.read(x, "look 0 2;bend 0 0 1 0"), -25);
        Check.due("each behind its BEND", Ways.read(x, "bend 0 0 1 0;seen 0 5;gone 0 6;call 0 7 8;look 0 0"), 5);
        Check.due("a BEND more", Ways.read(x, "bend 0 0 1 0;look 1 0;look 2 0"), -47);
        Check.due("the last there is", Ways.read(x, "look 1 0"), -25);
    }

    private static void looksOfEachWay() {
        int[] left = {70, 40, 10};
        for (int way = 0; way <= 2; way++) {
            Roof x = Ways.three();
            x.lies(2);
            Check.due("look by " + way, Ways.read(x, "look 2 " + way), 1);
            Check.due("in vain, though it LIES there", x.bendOf(2, 4), left[way]);
            Check.due("no DRAW", x.status(9), 1);
            Check.due("LIES", x.status(6), 2);
        }
    }

    private static void emptyEitherWay() {
        Roof x = Ways.three();
        Ways.feedAll(x, "pace 0");
        Check.due("no WAY", x.way(), -25);
        Check.due("THE TAPE is empty", x.status(8), 0);
        Check.due("once more", x.way(), -20);
        Ways.feedAll(x, "pace 8");
        Check.due("a WAY", x.way(), 1);
        Check.due("THE TAPE is empty", x.status(8), 0);
        Check.due("PACE", x.status(2), 8);
        Check.due("refused twice", x.status(12), 2);
    }
}

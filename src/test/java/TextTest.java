/** Promises 13 to 15: THE TAPE, and ways read from it. */
public final class TextTest {
    public static void main(String[] args) {
        feeds();
        wipes();
        readsAll();
        readsBlanks();
        addsToWhatThereIs();
        faults();
        faultsByState();
        noRoom();
        tooEarly();
        Check.end();
    }

    private static void feeds() {
        Roof x = new Roof();
        Check.due("feed 0", x.feed(0), 1);
        Check.due("feed 255", x.feed(255), 2);
        Check.refused(x, -2, "feed -1", () -> x.feed(-1));
        Check.refused(x, -2, "feed 256", () -> x.feed(256));
        Check.refused(x, -2, "feed MIN", () -> x.feed(Integer.MIN_VALUE));
        for (int i = 3; i <= 250; i++) {
            Check.due("feed", x.feed(32), i);
        }
        Check.refused(x, -6, "a 251st", () -> x.feed(32));
        Check.refused(x, -2, "a 251st that may not be", () -> x.feed(256));
        Check.due("size", x.status(8), 250);
    }

    private static void wipes() {
        Roof x = new Roof();
        Check.due("wipe nothing", x.wipe(), 0);
        Ways.feedAll(x, "pace 4");
        Check.due("wipe", x.wipe(), 6);
        Check.due("size", x.status(8), 0);
        Check.due("way of nothing", x.way(), -20);
        Check.due("PACE", x.status(2), 3);
        Check.due("feed again", x.feed(48), 1);
    }

    private static void readsAll() {
        Roof x = new Roof();
        int statements = Ways.read(x, "bend 5 9 999 1000;bend 0 0 1 0;pace 9;wet 1;grip 10;seen 1 100;gone 0 3;"
                + "call 1 99 100;look 0 0;look 1 1;look 1 2");
        Check.due("way", statements, 11);
        int[] due = {2, 2, 9, 1, 10, 1000, -1};
        for (int what = 0; what < due.length; what++) {
            Check.due("status(" + what + ")", x.status(what), due[what]);
        }
        int[] first = {5, 9, 999, 1000, 70};
        int[] second = {0, 0, 1, 0, 4};
        for (int what = 0; what < 5; what++) {
            Check.due("bendOf(0, " + what + ")", x.bendOf(0, what), first[what]);
            Check.due("bendOf(1, " + what + ")", x.bendOf(1, what), second[what]);
        }
        int[] signs = {1, 1, 100, 0, 0, 3};
        for (int i = 0; i < signs.length; i++) {
            Check.due("signOf", x.signOf(i / 3, i % 3), signs[i]);
        }
        Check.due("callOf BEND", x.callOf(0, 0), 1);
        Check.due("callOf MINUTES", x.callOf(0, 1), 99);
        Check.due("callOf KNOWS", x.callOf(0, 2), 100);
        Check.due("THE TAPE is empty", x.status(8), 0);
        Check.due("nothing was refused", x.status(12), 0);
    }

    private static void readsBlanks() {
        Roof x = new Roof();
        Check.due("blanks anywhere", Ways.read(x, "  bend  0   1 2   3  ;  pace  4  "), 2);
        Check.due("no blanks but where they are wanted", Ways.read(x, "bend0 1 2 3;pace5;wet1"), 3);
        Check.due("PACE", x.status(2), 5);
        Check.due("up to four digits", Ways.read(x, "bend 0000 0001 0002 0999"), 1);
        Check.due("PEOPLE", x.bendOf(2, 3), 999);
        Check.due("only blanks", Ways.read(x, "   "), -23);
        Check.due("another blank", Ways.read(x, "pace\t4"), -24);
        Check.due("a new line", Ways.read(x, "pace 4\n"), -26);
    }

    private static void addsToWhatThereIs() {
        Roof x = Ways.three();
        x.sign(0, true, 1);
        x.call(0, 1, 1);
        Check.due("way", Ways.read(x, "bend 2 3 4 5;seen 3 6;seen 0 7;call 3 8 9"), 4);
        Check.due("BENDS", x.status(0), 4);
        Check.due("its KIND", x.bendOf(3, 0), 2);
        Check.due("SIGNS", x.status(1), 3);
        Check.due("SURE", x.signOf(1, 2), 6);
        Check.due("gone", Ways.read(x, "gone 2 0"), 1);
        Check.due("where it is gone", x.signOf(3, 0), 2);
        Check.due("CALLS", x.status(17), 2);
        Check.due("KNOWS", x.callOf(1, 2), 9);
    }

    /** A text on a new object, which is no WAY: nothing comes of it but an empty TAPE and a refusal. */
    private static void fault(String text, int place) {
        Roof x = new Roof();
        String before = Ways.picture(x);
        Check.due(text, Ways.read(x, text), -20 - place);
        Check.that(text + " changed nothing", before.equals(Ways.picture(x)));
        Check.due(text + " was refused", x.status(12), 1);
        Check.due(text + " was refused as nothing else", x.status(13) + x.status(14) + x.status(15) + x.status(16), 0);
    }

    private static void faults() {
        fault("bends 0 1 2 3", 0);
        fault("ben 0 1 2 3", 0);
        fault("Bend 0 1 2 3", 0);
        fault("tend 0 1 2 3", 0);
        fault("pacez 4", 0);
        fault("apace 4", 0);
        fault("pace{4", 4);
        fault("pace`4", 4);
        fault("pace/4", 4);
        fault("pace:4", 4);
        fault(" 5", 1);
        fault(";pace 4", 0);
        fault("pace 4;;pace 5", 7);
        fault("pace 4 5", 7);
        fault("pace 4 pace 5", 7);
        fault("pace 4pace 5", 6);
        fault("pace four", 5);
        fault("pace ;", 5);
        fault("pace 0", 5);
        fault("pace 10", 5);
        fault("wet 2", 4);
        fault("grip 11", 5);
        fault("bend 6 0 1 0", 5);
        fault("bend 0 10 1 0", 7);
        fault("bend 0 0 0 0", 9);
        fault("bend 0 0 1000 0", 9);
        fault("bend 0 0 1 1001", 11);
        fault("bend 0 0 1 00001", 11);
        fault("bend 00000 0 1 0", 5);
        fault("bend 0 0 1 0;seen 1 5", 18);
        fault("bend 0 0 1 0;seen 0 101", 20);
        fault("bend 0 0 1 0;gone 0 101", 20);
        fault("bend 0 0 1 0;gone 1 0", 18);
        fault("bend 0 0 1 0;call 1 1 1", 18);
        fault("bend 0 0 1 0;call 0 0 1", 20);
        fault("bend 0 0 1 0;call 0 100 1", 20);
        fault("bend 0 0 1 0;call 0 1 101", 22);
        fault("bend 0 0 1 0;look 1 0", 18);
        fault("bend 0 0 1 0;look 0 3", 20);
        fault("bend 0 -1 1 0", 7);
        fault("pace 4;wet 1;grip 5;pace 99999999999", 25);
        fault("pace 4,wet 1", 6);
        fault("pace 4" + (char) 255, 6);
        fault("pace 4" + (char) 0, 6);
        fault("seen 0 5", 5);
    }

    private static void faultsByState() {
        Roof x = Ways.three();
        Check.due("the last BEND there is", Ways.read(x, "seen 2 5"), 1);
        Check.due("none behind it", Ways.read(x, "seen 3 5"), -25);
        Check.due("one that comes behind", Ways.read(x, "seen 3 5;bend 0 0 1 0"), -25);
        Check.due("BENDS", x.status(0), 3);
        Check.due("all or nothing", Ways.read(x, "bend 0 0 1 0;pace 9;wet 1;look 0 1;call 0 1 1;gone 0 1;grip 11"), -80);
        int[] due = {3, 1, 3, 0, 0, 410};
        for (int what = 0; what < due.length; what++) {
            Check.due("status(" + what + ")", x.status(what), due[what]);
        }
        Check.due("CALLS", x.status(17), 0);
        Check.due("MISS", x.bendOf(0, 4), 100);
    }

    private static void noRoom() {
        Roof bends = Ways.even(13, 1);
        Check.due("the word of a 15th BEND", Ways.read(bends, "bend 0 0 1 0; bend 0 0 1 0"), -34);
        Check.due("a 14th", Ways.read(bends, "bend 0 0 1 0"), 1);
        Check.due("the word, whatever comes behind it", Ways.read(bends, " bend x"), -21);
        Roof signs = Ways.three();
        for (int i = 0; i < 7; i++) {
            signs.sign(0, true, 0);
        }
        Check.due("the word of a 9th SIGN", Ways.read(signs, "seen 0 1;seen 0 1"), -29);
        Check.due("the word of a 9th SIGN", Ways.read(signs, "seen 0 1;gone 0 1"), -29);
        Check.due("an 8th", Ways.read(signs, "gone 0 1"), 1);
        Check.due("no 9th", Ways.read(signs, "gone"), -20);
        Roof calls = Ways.three();
        for (int i = 0; i < 5; i++) {
            calls.call(0, 1, 1);
        }
        Check.due("the word of a 7th CALL", Ways.read(calls, "call 0 1 1;call 0 1 1"), -31);
        Check.due("a 6th", Ways.read(calls, "call 0 1 1"), 1);
        Check.due("no 7th", Ways.read(calls, "call 0 1 1"), -20);
        Check.due("as BAD", calls.status(12), 2);
        Check.due("not as FULL", calls.status(16), 0);
    }

    private static void tooEarly() {
        fault("", 0);
        fault("bend", 4);
        fault("bend 0 1 2", 10);
        fault("bend 0 1 2  ", 12);
        fault("pace", 4);
        fault("pace 4;", 7);
        fault("pace 4; ", 8);
        StringBuilder text = new StringBuilder("pace 4");
        while (text.length() < 250) {
            text.append(' ');
        }
        Check.due("a whole TAPE", Ways.read(new Roof(), text.toString()), 1);
        text.setCharAt(249, ';');
        Check.due("a whole TAPE that ends too early", Ways.read(new Roof(), text.toString()), -270);
        Roof x = new Roof();
        Check.due("the most statements", Ways.read(x, "wet1;".repeat(49) + "wet0"), 50);
        Check.due("WET", x.status(3), 0);
    }
}

/** Promises 51 to 53: pieces and searches told by ROWS. */
public final class ToldTest {
    private static final int MIN = Integer.MIN_VALUE;
    private static final int MAX = Integer.MAX_VALUE;

    public static void main(String[] args) {
        judge();
        judgeOfEachSort();
        apart();
        search();
        searchByState();
        searchStuck();
        refusals();
        Check.end();
    }

    private static void judge() {
        Roof x = Ways.three();
        Ways.tell(x, 0, 0, 0, 2, 1, 2);
        Check.due("judge none", x.judge(0, 0), -1);
        Check.due("judge(0, 3)", x.judge(0, 3), -1);
        Check.due("judge(0, 4)", x.judge(0, 4), 3);
        Check.due("judge(0, 5)", x.judge(0, 5), 3);
        Ways.tell(x, 1, 1, 3);
        Check.due("no BEND 3", x.judge(1, 2), 1);
        Ways.tell(x, 1, -1, 0);
        Check.due("no BEND -1", x.judge(1, 2), 0);
        x.row(2, 3, 1);
        x.set(2, 0, 1L << 32);
        Check.due("no such BEND of a long", x.judge(2, 1), 0);
        Check.due("nothing was refused", x.status(12) + x.status(15), 0);
        Roof none = new Roof();
        none.row(0, 0, 40);
        Check.due("without BENDS", none.judge(0, 40), 0);
        Check.due("none of none", none.judge(0, 0), -1);
    }

    private static void judgeOfEachSort() {
        Roof x = Ways.three();
        for (int sort = 0; sort <= 4; sort++) {
            x.row(sort, sort, 3);
            x.set(sort, 1, 1);
            Check.due("judge in SORT " + sort, x.judge(sort, 3), 2);
            Check.due("judge two in SORT " + sort, x.judge(sort, 2), -1);
            Check.due("apart in SORT " + sort, x.apart(sort, 2), 250);
        }
    }

    private static void apart() {
        Roof x = Ways.three();
        Ways.tell(x, 0, 0, 0, 2, 2, 1);
        Check.due("apart none", x.apart(0, 0), 0);
        Check.due("apart one", x.apart(0, 1), 0);
        Check.due("apart at one BEND", x.apart(0, 2), 0);
        Check.due("apart(0, 4)", x.apart(0, 4), 310);
        Check.refused(x, -5, "apart of what is WRONG", () -> x.apart(0, 5));
        Ways.tell(x, 1, 0, 1, 2);
        Check.due("the most of two", x.apart(1, 3), 250);
        Ways.tell(x, 2, 3);
        Check.refused(x, -5, "apart of one that is none", () -> x.apart(2, 1));
        Check.due("apart of none of them", x.apart(2, 0), 0);
    }

    private static void search() {
        Roof x = Ways.three();
        Ways.tell(x, 0, 1, 1, 23, 12);
        int[] seconds = {0, 11, 22, 83, 146};
        int[] found = {0, 4500, 7650, 15508, 24373};
        for (int n = 0; n <= 4; n++) {
            Check.due("SECONDS of " + n, x.search(0, n, 0), seconds[n]);
            Check.due("FOUND by " + n, x.search(0, n, 1), found[n]);
        }
        Check.due("no BEND was looked at", x.status(11), 0);
    }

    private static void searchByState() {
        Roof x = Ways.three();
        Ways.tell(x, 0, 1, 1, 23, 12);
        x.sign(2, true, 50);
        x.look(0, 1);
        Check.due("SECONDS", x.search(0, 4, 0), 146);
        // 7500 * 70 / 100, * 49 / 100; 4366; 7387.
        Check.due("FOUND", x.search(0, 4, 1), 1575 + 1102 + 3929 + 4432);
        x.row(1, 0, 40);
        for (int i = 0; i < 40; i++) {
            x.set(1, i, 3);
        }
        Check.due("the same look 40 times", x.search(1, 40, 0), 4040);
    }

    private static void searchStuck() {
        Roof x = Ways.three();
        long[] wrong = {0, 4, 10, 14, 9, 31, 33, -1, -9, MIN, MAX, Long.MIN_VALUE, Long.MAX_VALUE, (1L << 32) + 1, 10L << 32 | 1};
        for (long w : wrong) {
            x.row(0, 3, 2);
            x.set(0, 0, 1);
            x.set(0, 1, w);
            Check.refused(x, -5, "search of " + w, () -> x.search(0, 2, 0));
            Check.refused(x, -5, "search of " + w, () -> x.search(0, 2, 1));
            Check.due("search ahead of " + w, x.search(0, 1, 0), 11);
        }
        Roof none = new Roof();
        Ways.tell(none, 0, 1);
        Check.refused(none, -5, "search without BENDS", () -> none.search(0, 1, 0));
    }

    private static void refusals() {
        Roof x = Ways.three();
        Ways.tell(x, 0, 1, 99);
        x.show(1, 0);
        int[] shelves = {-1, 8, MIN, MAX};
        for (int s : shelves) {
            Check.refused(x, -2, "judge SHELF", () -> x.judge(s, 0));
            Check.refused(x, -2, "apart SHELF", () -> x.apart(s, 0));
            Check.refused(x, -2, "search SHELF", () -> x.search(s, 0, 0));
        }
        int[] counts = {-1, 41, MIN, MAX};
        for (int n : counts) {
            for (int s = 0; s <= 2; s++) {
                int shelf = s;
                Check.refused(x, -2, "judge n", () -> x.judge(shelf, n));
                Check.refused(x, -2, "apart n", () -> x.apart(shelf, n));
                Check.refused(x, -2, "search n", () -> x.search(shelf, n, 0));
            }
        }
        int[] whats = {-1, 2, MIN, MAX};
        for (int w : whats) {
            for (int s = 0; s <= 2; s++) {
                int shelf = s;
                Check.refused(x, -2, "search what", () -> x.search(shelf, 1, w));
            }
        }
        Check.refused(x, -3, "judge a BEND", () -> x.judge(1, 40));
        Check.refused(x, -3, "apart of a BEND", () -> x.apart(1, 40));
        Check.refused(x, -3, "search of a BEND", () -> x.search(1, 40, 0));
        Check.refused(x, -4, "judge NOTHING", () -> x.judge(2, 40));
        Check.refused(x, -4, "apart of NOTHING", () -> x.apart(2, 40));
        Check.refused(x, -4, "search of NOTHING", () -> x.search(2, 40, 0));
        Check.refused(x, -2, "judge fewer elements", () -> x.judge(0, 3));
        Check.refused(x, -2, "apart of fewer elements", () -> x.apart(0, 3));
        Check.refused(x, -2, "search of fewer elements", () -> x.search(0, 3, 0));
    }
}

import java.util.ArrayList;
import java.util.Arrays;
import java.util.List;

/**
 * Ways without BENDS, of one and of as many as can be, each at its least or its most, by the least and the most PACE,
 * dry and WET, with the least and the most GRIP, without SIGNS and with as many as can be: all answers are compared
 * with the Model's.
 */
public final class ExtremesTest {
    private static final int[] SIZES = {0, 1, 13, 14};
    private static final int[][] KINDS = {{0, 0}, {1, 9}, {2, 9}, {3, 9}, {4, 0}, {5, 9}};
    private static final int[][] DRIVES = {{1, 0, 0}, {9, 1, 0}, {9, 0, 9}, {3, 1, 10}};

    private final String name;
    private final Roof x = new Roof();
    private final Model m = new Model();

    private ExtremesTest(String name) {
        this.name = name;
    }

    public static void main(String[] args) {
        for (int size : SIZES) {
            for (int[] kind : KINDS) {
                for (int[] drive : DRIVES) {
                    for (int signs = 0; signs <= 2; signs++) {
                        compare(size, kind, drive, signs);
                    }
                }
            }
        }
        Check.end();
    }

    private static void compare(int size, int[] kind, int[] drive, int signs) {
        ExtremesTest test = new ExtremesTest(size + " of " + Arrays.toString(kind) + " by " + Arrays.toString(drive)
                + ", signs " + signs + ": ");
        test.make(size, kind, drive);
        if (size > 0) {
            test.addSigns(signs);
            test.addCalls(signs);
        }
        test.askOfAll();
        for (int bend = 0; bend < size; bend += Math.max(1, size - 1)) {
            test.askOfBend(bend);
        }
        test.askOfTimes();
        test.askOfBest();
        if (size > 0) {
            test.askByRows();
        }
    }

    private void due(String call, long got, long want) {
        Check.due(name + call, got, want);
    }

    private void make(int size, int[] kind, int[] drive) {
        for (int i = 0; i < size; i++) {
            int yards = i % 2 == 0 ? 999 : 1;
            int people = i % 3 == 0 ? 1000 : i % 3;
            due("bend", x.bend(kind[0], kind[1], yards, people), i);
            m.bend(kind[0], kind[1], yards, people);
        }
        due("PACE", x.ask(0, drive[0]), 3);
        due("WET", x.ask(1, drive[1]), 0);
        due("GRIP", x.ask(2, drive[2]), 0);
        m.pace = drive[0];
        m.wet = drive[1] == 1;
        m.grip = drive[2];
    }

    /** None, as many as can be that leave something, as many as can be that leave next to nothing. */
    private void addSigns(int signs) {
        int last = m.bends.size() - 1;
        for (int i = 0; i < (signs == 0 ? 0 : 8); i++) {
            int bend = i % 2 == 0 ? 0 : last;
            int sure = signs == 1 ? i * 5 : i == 7 ? 100 : 99;
            due("sign", x.sign(bend, i % 4 < 2, sure), i + 1);
            m.signs.add(new Model.Sign(bend, i % 4 < 2, sure));
        }
        for (int i = 0; i < (signs == 0 ? 0 : 11); i++) {
            due("look", x.look(last, 1 + i % 3), m.look(last, 1 + i % 3));
        }
    }

    private void addCalls(int calls) {
        int last = m.bends.size() - 1;
        for (int i = 0; i < 3 * calls; i++) {
            int bend = last * i / 5;
            due("call", x.call(bend, i % 2 == 0 ? 1 : 99, i % 3 * 50), i);
            m.calls.add(new Model.Call(bend, i % 2 == 0 ? 1 : 99, i % 3 * 50));
        }
    }

    private void askOfAll() {
        due("half", x.half(), m.half());
        due("asks", x.asks(), m.asks());
        due("where", x.where(), m.where());
        due("worst", x.worst(), m.worst());
        due("last", x.last(), m.last());
        due("next", x.next(), m.next());
        due("otherwise", x.otherwise(), m.held(m.pace, !m.wet, m.grip));
        due("weight of HELD", x.weight(-1), m.weight(-1));
        due("likely HELD", x.likely(-1), m.likely(-1));
        due("all WEIGHTS", x.status(7), m.all());
        due("all YARDS", x.status(5), m.yardsTo(m.bends.size() - 1));
        for (int i = 0; i < m.calls.size(); i++) {
            due("hears", x.hears(i), m.hears(i));
        }
        int[] minutes = {0, 1, 2, 98, 99, 100, 300, 999};
        for (int n : minutes) {
            due("rings " + n, x.rings(n), m.rings(n));
        }
        int[] paces = {1, 9};
        for (int pace : paces) {
            due("fell of HELD", x.fell(-1, pace), m.held(pace, m.wet, m.grip));
        }
    }

    private void askOfBend(int bend) {
        due("MISS", x.bendOf(bend, 4), m.miss(bend));
        due("FALL", x.bendOf(bend, 5), m.fall(bend, m.pace));
        due("YARDS to it", x.bendOf(bend, 6), m.yardsTo(bend));
        for (int pace = 1; pace <= 9; pace += 8) {
            due("fall", x.fall(bend, pace), m.fall(bend, pace));
            due("fell", x.fell(bend, pace), m.fell(pace, m.wet, m.grip)[bend]);
        }
        due("weight", x.weight(bend), m.weight(bend));
        due("likely", x.likely(bend), m.likely(bend));
        due("between", x.between(0, bend), m.between(0, bend));
        due("between", x.between(bend, m.bends.size() - 1), m.between(bend, m.bends.size() - 1));
        due("drove", x.drove(bend), m.drove(bend));
        due("without", x.without(bend), m.without(bend));
        for (int look = 1; look <= 3; look++) {
            due("seconds", x.seconds(bend, look), m.seconds(bend, look));
            due("found", x.found(bend, look), m.found(bend, look));
        }
        int[] sures = {0, 1, 99, 100};
        for (int sure : sures) {
            due("after IS 1", x.after(bend, true, sure), m.after(bend, true, sure));
            due("after IS 0", x.after(bend, false, sure), m.after(bend, false, sure));
        }
    }

    private void askOfTimes() {
        int[] thousandths = {0, 1, 500, 999, 1000};
        for (int v : thousandths) {
            due("few " + v, x.few(v), m.few(v));
        }
        int[] looks = {0, 1, 39, 40};
        for (int n : looks) {
            long[] later = m.later(n);
            due("order " + n, x.order(n), later[0]);
            due("vain " + n, x.vain(n), later[1]);
        }
        int[] minutes = {0, 1, 299, 300};
        for (int n : minutes) {
            due("others " + n, x.others(n), m.others(n));
        }
        int held = (int) m.held();
        int[] values = {0, 1, held, held + 1, 1000000 - held, 1000000 - held + 1, 999999, 1000000};
        for (int some : values) {
            int v = Math.min(1000000, some);
            due("fast " + v, x.fast(v), m.fast(v));
            due("gripFor " + v, x.gripFor(v), m.gripFor(v));
            due("until " + v, x.until(v), m.until(v));
        }
        int[] trips = {0, 1, 2, 998, 999};
        for (int n : trips) {
            due("once " + n, x.once(n), m.once(n));
            due("worth " + n, x.worth(n, 999, 9999), m.worth(n, 999, 9999));
            due("worth " + n, x.worth(n, 1, 0), m.worth(n, 1, 0));
        }
        for (int k = 0; k <= 3; k++) {
            due("slows " + k, x.slows(k), m.slows(k));
        }
    }

    private void askOfBest() {
        int[] times = {0, 1, 9, 10, 11, 20, 100, 250, 1000, 1010, 5555, 8999, 9000};
        for (int seconds : times) {
            long[] best = m.bestByTable(seconds);
            due("best " + seconds, x.best(seconds, -1), best[0]);
            for (int i = 0; i < m.bends.size(); i++) {
                due("best " + seconds + ", " + i, x.best(seconds, i), best[i + 1]);
            }
        }
        int most = (int) m.bestByTable(9000)[0];
        int[] values = {0, 1, most / 2, most - 1, most, most + 1, 1000000};
        for (int some : values) {
            int v = Math.max(0, some);
            due("soonest " + v, x.soonest(v), m.soonest(v));
        }
    }

    private void askByRows() {
        int last = m.bends.size() - 1;
        long[][] rows = {{}, {0}, {last}, {0, last}, {last, last}, {0, 0, last, last}, {last + 1}, {-1}, {last, 0}};
        for (long[] row : rows) {
            List<Long> pieces = new ArrayList<>();
            List<Long> looks = new ArrayList<>();
            for (long piece : row) {
                pieces.add(piece);
                looks.add(10 * piece + 1);
                looks.add(10 * piece + 3);
            }
            tell(0, pieces);
            tell(7, looks);
            due("judge " + pieces, x.judge(0, pieces.size()), m.judge(pieces));
            due("apart " + pieces, x.apart(0, pieces.size()), m.apart(pieces));
            due("search " + looks, x.search(7, looks.size(), 0), m.search(looks, 0));
            due("search " + looks, x.search(7, looks.size(), 1), m.search(looks, 1));
        }
    }

    private void tell(int s, List<Long> row) {
        x.row(s, 1, row.size());
        for (int i = 0; i < row.size(); i++) {
            x.set(s, i, row.get(i));
        }
    }
}

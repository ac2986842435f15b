import java.util.ArrayList;
import java.util.Arrays;
import java.util.List;
import java.util.Random;

/** Random runs of calls, each answer compared with the Model's. */
public final class ModelTest {
    private static final int RUNS = 2000;

    /** What an object answers is promised up to its 512th call; no step makes more than 60. */
    private static final int CALLS = 512 - 60;

    private final Random random;
    private final Roof x = new Roof();
    private final Model m = new Model();
    private Model kept;

    /** Few bends let all rows be tried. */
    private final int mostBends;

    /** Calls whose answers aren't looked at. */
    private int more;

    private ModelTest(int seed) {
        random = new Random(seed);
        mostBends = seed % 4 == 0 ? 14 : 1 + random.nextInt(6);
    }

    public static void main(String[] args) {
        for (int run = 0; run < RUNS; run++) {
            new ModelTest(run).runAll();
        }
        Check.end();
    }

    private void runAll() {
        int from = Check.count();
        while (Check.count() - from + more < CALLS) {
            if (random.nextInt(3) == 0) {
                change();
            } else if (m.bends.isEmpty()) {
                askOfAll();
            } else {
                switch (random.nextInt(4)) {
                    case 0 -> askOfAll();
                    case 1 -> askOfBends();
                    case 2 -> askOfTimes();
                    default -> askByRows();
                }
            }
        }
    }

    private int upTo(int most) {
        return random.nextInt(most + 1);
    }

    /** Often small, sometimes anything up to the most. */
    private int some(int most) {
        return random.nextBoolean() ? upTo(most) : upTo(Math.min(most, 20));
    }

    private int anyBend() {
        return random.nextInt(m.bends.size());
    }

    private int bendOrNone() {
        return random.nextInt(m.bends.size() + 1) - 1;
    }

    private void change() {
        int kind = random.nextInt(14);
        if (m.bends.isEmpty() || kind < 3) {
            addBend();
            return;
        }
        switch (kind) {
            case 3, 4 -> addSign();
            case 5 -> addCall();
            case 6, 7 -> settle();
            case 8, 9 -> lookInTruth();
            case 10 -> lie();
            case 11 -> driveInTruth();
            case 12 -> readWay();
            default -> keep();
        }
    }

    private void addBend() {
        if (m.bends.size() >= mostBends) {
            return;
        }
        int kind = random.nextInt(6);
        int a = random.nextInt(10);
        int yards = 1 + some(998);
        int people = some(1000);
        Check.due("bend", x.bend(kind, a, yards, people), m.bends.size());
        m.bend(kind, a, yards, people);
    }

    private void addSign() {
        int bend = anyBend();
        boolean is = random.nextBoolean();
        int sure = random.nextInt(4) == 0 ? 100 : upTo(100);
        boolean isFull = m.signs.size() == 8;
        if (!isFull) {
            m.signs.add(new Model.Sign(bend, is, sure));
        }
        Check.due("sign", x.sign(bend, is, sure), isFull ? -6 : m.signs.size());
    }

    private void addCall() {
        int bend = anyBend();
        int minutes = 1 + upTo(98);
        int knows = upTo(100);
        boolean isFull = m.calls.size() == 6;
        Check.due("call", x.call(bend, minutes, knows), isFull ? -6 : m.calls.size());
        if (!isFull) {
            m.calls.add(new Model.Call(bend, minutes, knows));
        }
    }

    private void settle() {
        switch (random.nextInt(4)) {
            case 0 -> {
                int v = 1 + random.nextInt(9);
                Check.due("ask PACE", x.ask(0, v), m.pace);
                m.pace = v;
            }
            case 1 -> {
                boolean v = random.nextBoolean();
                Check.due("ask WET", x.ask(1, v ? 1 : 0), m.wet ? 1 : 0);
                m.wet = v;
            }
            case 2 -> {
                int v = random.nextInt(11);
                Check.due("ask GRIP", x.ask(2, v), m.grip);
                m.grip = v;
            }
            default -> {
                Check.due("anew", x.anew(), m.signs.size());
                m.forget();
            }
        }
    }

    private void lookInTruth() {
        int bend = anyBend();
        int look = 1 + random.nextInt(3);
        Check.due("look", x.look(bend, look), m.look(bend, look));
    }

    private void lie() {
        int v = random.nextInt();
        int bend = bendOrNone();
        Check.due("lies", x.lies(bend), m.lies);
        Check.due("seed", x.seed(v), m.seed);
        m.lies = bend;
        m.seed = v;
    }

    private void driveInTruth() {
        if (random.nextInt(3) > 0) {
            Check.due("drive", x.drive(), m.drive());
            return;
        }
        int n = 1 + random.nextInt(99);
        int fallen = 0;
        for (int i = 0; i < n; i++) {
            fallen += m.drive();
        }
        Check.due("trips", x.trips(n), fallen);
    }

    private void readWay() {
        int bend = anyBend();
        int look = random.nextInt(3);
        int pace = 1 + random.nextInt(9);
        int wet = random.nextInt(2);
        more += 30;
        Check.due("way", Ways.read(x, "look " + bend + " " + look + "; pace " + pace + ";wet" + wet), 3);
        m.looks.get(bend).add(look + 1);
        m.pace = pace;
        m.wet = wet == 1;
    }

    private void keep() {
        if (kept == null || random.nextBoolean()) {
            kept = new Model();
            kept.takeAll(m);
            Check.due("image", x.image(), 1);
        } else {
            m.takeAll(kept);
            Check.due("back", x.back(), 1);
        }
    }

    private void askOfAll() {
        Check.due("half", x.half(), m.half());
        Check.due("asks", x.asks(), m.asks());
        Check.due("where", x.where(), m.where());
        Check.due("worst", x.worst(), m.worst());
        Check.due("last", x.last(), m.last());
        Check.due("next", x.next(), m.next());
        Check.due("otherwise", x.otherwise(), m.held(m.pace, !m.wet, m.grip));
        Check.due("weight of HELD", x.weight(-1), m.weight(-1));
        Check.due("all WEIGHTS", x.status(7), m.all());
        Check.due("LIES", x.status(6), m.lies);
        Check.due("SEED", x.status(9), m.seed);
        Check.due("all YARDS", x.status(5), m.yardsTo(m.bends.size() - 1));
        int lookedAt = 0;
        for (int i = 0; i < m.bends.size(); i++) {
            lookedAt += m.looks.get(i).isEmpty() ? 0 : 1;
        }
        Check.due("BENDS looked at", x.status(11), lookedAt);
        for (int i = 0; i < m.calls.size(); i++) {
            Check.due("hears", x.hears(i), m.hears(i));
        }
        int minutes = some(999);
        Check.due("rings", x.rings(minutes), m.rings(minutes));
    }

    private void askOfBends() {
        int bend = anyBend();
        int look = 1 + random.nextInt(3);
        int pace = 1 + random.nextInt(9);
        int behind = bend + random.nextInt(m.bends.size() - bend);
        Check.due("bendOf MISS", x.bendOf(bend, 4), m.miss(bend));
        Check.due("bendOf FALL", x.bendOf(bend, 5), m.fall(bend, m.pace));
        Check.due("bendOf YARDS to it", x.bendOf(bend, 6), m.yardsTo(bend));
        Check.due("fall", x.fall(bend, pace), m.fall(bend, pace));
        Check.due("fell", x.fell(bend, pace), m.fell(pace, m.wet, m.grip)[bend]);
        Check.due("fell of HELD", x.fell(-1, pace), m.held(pace, m.wet, m.grip));
        Check.due("weight", x.weight(bend), m.weight(bend));
        Check.due("likely", x.likely(bend), m.likely(bend));
        Check.due("likely HELD", x.likely(-1), m.likely(-1));
        Check.due("between", x.between(bend, behind), m.between(bend, behind));
        Check.due("seconds", x.seconds(bend, look), m.seconds(bend, look));
        Check.due("found", x.found(bend, look), m.found(bend, look));
        Check.due("drove", x.drove(bend), m.drove(bend));
        Check.due("without", x.without(bend), m.without(bend));
        boolean is = random.nextBoolean();
        int sure = upTo(100);
        Check.due("after", x.after(bend, is, sure), m.after(bend, is, sure));
    }

    private void askOfTimes() {
        int v = random.nextBoolean() ? upTo(1000000) : (int) m.held() + random.nextInt(3) - 1;
        v = Math.max(0, Math.min(1000000, v));
        int n = some(40);
        int trips = some(999);
        int minutes = some(300);
        int few = upTo(1000);
        Check.due("few", x.few(few), m.few(few));
        Check.due("fast", x.fast(v), m.fast(v));
        Check.due("gripFor", x.gripFor(v), m.gripFor(v));
        Check.due("until", x.until(v), m.until(v));
        Check.due("once", x.once(trips), m.once(trips));
        Check.due("until once", x.until((int) m.once(trips)), m.until((int) m.once(trips)));
        Check.due("worth", x.worth(trips, minutes, n), m.worth(trips, minutes, n));
        Check.due("order", x.order(n), m.later(n)[0]);
        Check.due("vain", x.vain(n), m.later(n)[1]);
        Check.due("others", x.others(minutes), m.others(minutes));
        int k = random.nextInt(4);
        Check.due("slows", x.slows(k), m.slows(k));
        if (m.bends.size() <= 6) {
            bestAndSoonest();
        } else {
            bestOfMany();
        }
    }

    private void bestOfMany() {
        int seconds = random.nextBoolean() ? upTo(9000) : upTo(600);
        long[] best = m.bestByTable(seconds);
        Check.due("best FOUND of many", x.best(seconds, -1), best[0]);
        int v = upTo((int) best[0] + 1);
        Check.due("soonest of many", x.soonest(v), m.soonest(v));
        for (int i = 0; i < m.bends.size(); i++) {
            Check.due("best row of many", x.best(seconds, i), best[i + 1]);
        }
    }

    private void bestAndSoonest() {
        int seconds = random.nextInt(4) == 0 ? upTo(9000) : upTo(600);
        long[] best = m.best(seconds);
        Check.that("both ways to the best", Arrays.equals(best, m.bestByTable(seconds)));
        Check.due("best FOUND", x.best(seconds, -1), best[0]);
        for (int i = 0; i < m.bends.size(); i++) {
            Check.due("best row", x.best(seconds, i), best[i + 1]);
        }
        int found = (int) best[0];
        int soonest = x.soonest(found);
        Check.due("soonest finds it", soonest >= 0 && soonest <= seconds ? m.best(soonest)[0] : -9, found);
        if (soonest > 0) {
            Check.that("not sooner", m.best(soonest - 10)[0] < found);
        }
        Check.due("soonest for more than all", x.soonest(Math.min(1000000, (int) m.best(9000)[0] + 1)), -1);
    }

    private void askByRows() {
        int n = random.nextInt(8);
        List<Long> pieces = new ArrayList<>();
        List<Long> looks = new ArrayList<>();
        long piece = 0;
        for (int i = 0; i < n; i++) {
            piece += random.nextInt(5) == 0 ? -1 : random.nextInt(2);
            pieces.add(piece);
            looks.add(random.nextInt(30) == 0 ? random.nextInt(200) - 30L : 10L * anyBend() + 1 + random.nextInt(3));
        }
        tell(0, pieces);
        tell(1, looks);
        Check.due("judge", x.judge(0, n), m.judge(pieces));
        Check.due("apart", x.apart(0, n), m.apart(pieces));
        Check.due("search SECONDS", x.search(1, n, 0), m.search(looks, 0));
        Check.due("search FOUND", x.search(1, n, 1), m.search(looks, 1));
    }

    private void tell(int s, List<Long> row) {
        more += 1 + row.size();
        x.row(s, 1 + random.nextInt(3), row.size());
        for (int i = 0; i < row.size(); i++) {
            x.set(s, i, row.get(i));
        }
    }
}

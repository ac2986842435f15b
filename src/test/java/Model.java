import java.util.ArrayList;
import java.util.Arrays;
import java.util.List;

/**
 * The document once more, told as plainly as can be and without care for time: what OnTheRoof answers is compared
 * with this. Calls that may not be made are not known here, but for what is full.
 */
final class Model {
    record Bend(int kind, int a, int yards, int people) {
    }

    record Sign(int bend, boolean is, int sure) {
    }

    record Call(int bend, int minutes, int knows) {
    }

    static final int[] SEES = {0, 30, 60, 90};

    final List<Bend> bends = new ArrayList<>();
    final List<List<Integer>> looks = new ArrayList<>();
    final List<Sign> signs = new ArrayList<>();
    final List<Call> calls = new ArrayList<>();
    int pace = 3;
    boolean wet = false;
    int grip = 0;
    int lies = -1;
    int seed = 1;

    void bend(int kind, int a, int yards, int people) {
        bends.add(new Bend(kind, a, yards, people));
        looks.add(new ArrayList<>());
    }

    void forget() {
        signs.clear();
        for (List<Integer> of : looks) {
            of.clear();
        }
    }

    int miss(int bend) {
        int miss = 100;
        for (int look : looks.get(bend)) {
            miss = miss * (100 - SEES[look]) / 100;
        }
        return miss;
    }

    static int fall(Bend bend, int v, boolean isWet, int hold) {
        int plain = bend.a * v;
        int sharp = plain + v * v;
        int rough = 10 + plain;
        int[] ofKind = {plain, sharp, rough, 2 * sharp, rough + 20, bend.a};
        int fall = (ofKind[bend.kind] + (isWet ? 20 : 0)) * (10 - hold) / 10;
        return Math.max(0, Math.min(1000, fall));
    }

    int fall(int bend, int v) {
        return fall(bends.get(bend), v, wet, grip);
    }

    /** FELL of each by its FALL, and HELD as the last. */
    static long[] fell(int[] falls) {
        long[] fell = new long[falls.length + 1];
        long holds = 1000000;
        for (int i = 0; i < falls.length; i++) {
            fell[i] = holds * falls[i] / 1000;
            holds -= fell[i];
        }
        fell[falls.length] = holds;
        return fell;
    }

    long[] fell(int v, boolean isWet, int hold) {
        int[] falls = new int[bends.size()];
        for (int i = 0; i < falls.length; i++) {
            falls[i] = fall(bends.get(i), v, isWet, hold);
        }
        return fell(falls);
    }

    long held(int v, boolean isWet, int hold) {
        return fell(v, isWet, hold)[bends.size()];
    }

    long held() {
        return held(pace, wet, grip);
    }

    /** The WEIGHTS, that of HELD as the last. */
    long[] weights() {
        long[] w = fell(pace, wet, grip);
        int n = bends.size();
        for (Sign sign : signs) {
            int from = sign.is ? 0 : sign.bend + 1;
            int to = sign.is ? sign.bend : n;
            for (int i = from; i <= to; i++) {
                w[i] = w[i] * (100 - sign.sure) / 100;
            }
        }
        for (int i = 0; i < n; i++) {
            w[i] = w[i] * miss(i) / 100;
        }
        return w;
    }

    static long sum(long[] w, int from, int to) {
        long sum = 0;
        for (int i = from; i <= to; i++) {
            sum += w[i];
        }
        return sum;
    }

    long all() {
        return sum(weights(), 0, bends.size());
    }

    private int placeOf(int bend) {
        return bend == -1 ? bends.size() : bend;
    }

    long weight(int bend) {
        return weights()[placeOf(bend)];
    }

    long likely(int bend) {
        return all() == 0 ? -5 : 1000 * weight(bend) / all();
    }

    long between(int bend, int other) {
        return all() == 0 ? -5 : 1000 * sum(weights(), bend, other) / all();
    }

    long half() {
        for (int i = 0; i < bends.size(); i++) {
            if (sum(weights(), 0, i) >= sum(weights(), i + 1, bends.size())) {
                return i;
            }
        }
        return -1;
    }

    long few(int v) {
        long[] w = Arrays.copyOf(weights(), bends.size());
        Arrays.sort(w);
        long all = sum(w, 0, w.length - 1);
        for (int k = 0; k <= w.length; k++) {
            if (1000 * sum(w, w.length - k, w.length - 1) >= v * all) {
                return k;
            }
        }
        throw new IllegalStateException();
    }

    long asks() {
        long best = -5;
        long least = Long.MAX_VALUE;
        for (int i = 0; i < bends.size(); i++) {
            long apart = Math.abs(sum(weights(), 0, i) - sum(weights(), i + 1, bends.size()));
            if (apart < least) {
                least = apart;
                best = i;
            }
        }
        return best;
    }

    long after(int bend, boolean is, int sure) {
        if (signs.size() == 8) {
            return -6;
        }
        signs.add(new Sign(bend, is, sure));
        long likely = likely(-1);
        signs.remove(signs.size() - 1);
        return likely;
    }

    long where() {
        long[] w = weights();
        int best = -5;
        for (int i = bends.size() - 1; i >= 0; i--) {
            if (best < 0 || w[i] >= w[best]) {
                best = i;
            }
        }
        return best;
    }

    int seconds(int bend, int look) {
        int yards = bends.get(bend).yards;
        return 1 + (look == 1 ? yards / 10 : look == 2 ? yards / 4 : yards);
    }

    long found(int bend, int look) {
        return weight(bend) * SEES[look] / 100;
    }

    /** FOUND, then the row; by all rows in their order. */
    long[] best(int seconds) {
        int n = bends.size();
        long[] best = new long[n + 1];
        int[] row = new int[n];
        long[][] found = new long[n][4];
        int[][] takes = new int[n][4];
        for (int i = 0; i < n; i++) {
            for (int look = 1; look <= 3; look++) {
                found[i][look] = found(i, look);
                takes[i][look] = 10 * ((seconds(i, look) + 9) / 10);
            }
        }
        best[0] = -1;
        tryRows(0, row, 0, 0, seconds, found, takes, best);
        return best;
    }

    private static void tryRows(int i, int[] row, int taken, long sum, int seconds, long[][] found, int[][] takes,
            long[] best) {
        if (taken > seconds) {
            return;
        }
        if (i == row.length) {
            if (sum > best[0]) {
                best[0] = sum;
                for (int k = 0; k < row.length; k++) {
                    best[k + 1] = row[k];
                }
            }
            return;
        }
        for (int look = 0; look <= 3; look++) {
            row[i] = look;
            tryRows(i + 1, row, taken + takes[i][look], sum + found[i][look], seconds, found, takes, best);
        }
    }

    /** The same for many BENDS: the most by the BENDS from one on, then look by look the first that keeps it. */
    long[] bestByTable(int seconds) {
        int n = bends.size();
        int tens = seconds / 10;
        long[][] most = mostFromEachOn(tens);
        long[] best = new long[n + 1];
        best[0] = most[0][tens];
        int left = tens;
        for (int i = 0; i < n; i++) {
            int look = 0;
            int rest = left;
            long gain = 0;
            while (rest < 0 || most[i + 1][rest] + gain != most[i][left]) {
                look++;
                rest = left - (seconds(i, look) + 9) / 10;
                gain = found(i, look);
            }
            best[i + 1] = look;
            left = rest;
        }
        return best;
    }

    /** Of each BEND and of each time: the most FOUND by it and those behind it. */
    private long[][] mostFromEachOn(int tens) {
        int n = bends.size();
        long[][] most = new long[n + 1][tens + 1];
        for (int i = n - 1; i >= 0; i--) {
            most[i] = most[i + 1].clone();
            for (int look = 1; look <= 3; look++) {
                long found = found(i, look);
                int takes = (seconds(i, look) + 9) / 10;
                for (int t = takes; t <= tens; t++) {
                    most[i][t] = Math.max(most[i][t], most[i + 1][t - takes] + found);
                }
            }
        }
        return most;
    }

    long soonest(int v) {
        long[] most = mostFromEachOn(900)[0];
        for (int t = 0; t <= 900; t++) {
            if (most[t] >= v) {
                return 10 * t;
            }
        }
        return -1;
    }

    long next() {
        long best = -1;
        long most = 0;
        for (int i = 0; i < bends.size(); i++) {
            for (int look = 1; look <= 3; look++) {
                long rate = found(i, look) * 1000 / seconds(i, look);
                if (rate > most) {
                    most = rate;
                    best = 10 * i + look;
                }
            }
        }
        return best;
    }

    /** NEXT and all WEIGHTS behind so many looks in vain. */
    long[] later(int count) {
        List<Integer> made = new ArrayList<>();
        for (int i = 0; i < count && next() != -1; i++) {
            int next = (int) next();
            looks.get(next / 10).add(next % 10);
            made.add(0, next / 10);
        }
        long[] later = {next(), all()};
        for (int bend : made) {
            looks.get(bend).remove(looks.get(bend).size() - 1);
        }
        return later;
    }

    long others(int minutes) {
        long[] w = weights();
        long gone = 0;
        for (int minute = 0; minute < minutes; minute++) {
            for (int i = 0; i < bends.size(); i++) {
                long goes = w[i] * bends.get(i).people / 1000;
                w[i] -= goes;
                gone += goes;
            }
        }
        return gone;
    }

    long fast(int v) {
        long fast = -1;
        for (int p = 1; p <= 9; p++) {
            if (held(p, wet, grip) >= v) {
                fast = p;
            }
        }
        return fast;
    }

    long drove(int bend) {
        int best = 9;
        for (int p = 9; p >= 1; p--) {
            if (fell(p, wet, grip)[bend] >= fell(best, wet, grip)[bend]) {
                best = p;
            }
        }
        return best;
    }

    long gripFor(int v) {
        long best = -1;
        for (int g = 10; g >= 0; g--) {
            if (held(pace, wet, g) >= v) {
                best = g;
            }
        }
        return best;
    }

    long slows(int k) {
        int n = bends.size();
        long most = -1;
        int best = 0;
        for (int set = 0; set < 1 << n; set++) {
            if (Integer.bitCount(set) <= k) {
                int[] falls = new int[n];
                for (int i = 0; i < n; i++) {
                    falls[i] = fall(i, (set & 1 << i) != 0 ? 1 : pace);
                }
                long held = fell(falls)[n];
                if (held > most) {
                    most = held;
                    best = set;
                }
            }
        }
        return best;
    }

    long without(int bend) {
        int[] falls = new int[bends.size()];
        for (int i = 0; i < falls.length; i++) {
            falls[i] = i == bend ? 0 : fall(i, pace);
        }
        return fell(falls)[falls.length];
    }

    long once(int n) {
        long holds = 1000000;
        for (int i = 0; i < n; i++) {
            holds = holds * held() / 1000000;
        }
        return 1000000 - holds;
    }

    long until(int v) {
        long holds = 1000000;
        long held = held();
        for (int n = 0; n <= 999; n++) {
            if (1000000 - holds >= v) {
                return n;
            }
            holds = holds * held / 1000000;
        }
        return -1;
    }

    long worth(int n, int price, int cost) {
        return (long) n * price * (1000000 - held()) / 1000000 - cost;
    }

    long worst() {
        int best = -5;
        for (int i = bends.size() - 1; i >= 0; i--) {
            if (best < 0 || fall(i, pace) >= fall(best, pace)) {
                best = i;
            }
        }
        return best;
    }

    long last() {
        int last = -1;
        for (int i = 0; i < bends.size(); i++) {
            if (weight(i) > 0) {
                last = i;
            }
        }
        return last;
    }

    long hears(int call) {
        Call own = calls.get(call);
        int from = 0;
        for (Call other : calls) {
            if (other.bend < own.bend && other.bend >= from) {
                from = other.bend + 1;
            }
        }
        return sum(weights(), from, own.bend) * own.knows / 100;
    }

    long rings(int minutes) {
        long most = -1;
        int best = 0;
        for (int set = 0; set < 1 << calls.size(); set++) {
            long heard = 0;
            int taken = 0;
            for (int i = 0; i < calls.size(); i++) {
                if ((set & 1 << i) != 0) {
                    heard += hears(i);
                    taken += calls.get(i).minutes;
                }
            }
            if (taken <= minutes && heard > most) {
                most = heard;
                best = set;
            }
        }
        return best;
    }

    int judge(List<Long> row) {
        for (int i = 0; i < row.size(); i++) {
            if (row.get(i) < 0 || row.get(i) >= bends.size() || i > 0 && row.get(i) < row.get(i - 1)) {
                return i;
            }
        }
        return -1;
    }

    int yardsTo(int bend) {
        int yards = 0;
        for (int i = 0; i <= bend; i++) {
            yards += bends.get(i).yards;
        }
        return yards;
    }

    int apart(List<Long> row) {
        if (judge(row) != -1) {
            return -5;
        }
        int most = 0;
        for (int i = 1; i < row.size(); i++) {
            most = Math.max(most, yardsTo(row.get(i).intValue()) - yardsTo(row.get(i - 1).intValue()));
        }
        return most;
    }

    long search(List<Long> row, int what) {
        for (long told : row) {
            if (told < 0 || told / 10 >= bends.size() || told % 10 < 1 || told % 10 > 3) {
                return -5;
            }
        }
        long seconds = 0;
        long found = 0;
        List<Integer> made = new ArrayList<>();
        for (long told : row) {
            int bend = (int) (told / 10);
            int look = (int) (told % 10);
            seconds += seconds(bend, look);
            found += found(bend, look);
            looks.get(bend).add(look);
            made.add(bend);
        }
        for (int bend : made) {
            looks.get(bend).remove(looks.get(bend).size() - 1);
        }
        return what == 0 ? seconds : found;
    }

    int draw(int below) {
        seed = seed * 1103515245 + 12345;
        return ((seed >> 16) & 0xFFFF) % below;
    }

    int drive() {
        forget();
        lies = -1;
        for (int i = 0; i < bends.size() && lies == -1; i++) {
            if (draw(1000) < fall(i, pace)) {
                lies = i;
            }
        }
        return lies == -1 ? 0 : 1;
    }

    int look(int bend, int look) {
        boolean isFound = false;
        if (lies == bend) {
            isFound = draw(100) < SEES[look];
        }
        if (!isFound) {
            looks.get(bend).add(look);
        }
        return isFound ? 1 : 0;
    }

    /** All of another. */
    void takeAll(Model other) {
        bends.clear();
        looks.clear();
        for (int i = 0; i < other.bends.size(); i++) {
            bends.add(other.bends.get(i));
            looks.add(new ArrayList<>(other.looks.get(i)));
        }
        signs.clear();
        signs.addAll(other.signs);
        calls.clear();
        calls.addAll(other.calls);
        pace = other.pace;
        wet = other.wet;
        grip = other.grip;
        lies = other.lies;
        seed = other.seed;
    }
}

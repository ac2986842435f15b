import java.util.ArrayList;
import java.util.List;
import java.util.function.ToLongFunction;

/**
 * An OnTheRoof on which a test may make as many calls as it likes. The document promises nothing of an object behind
 * its 512th call: ahead of the next one a new object takes over, on which all that changed something is called again.
 */
final class Roof {
    private static final int MOST_CALLS = 512;

    /** A call that changed something, be it but the number of REFUSALS. */
    private record Change(ToLongFunction<OnTheRoof> call, long answer) {
    }

    private final List<Change> changes = new ArrayList<>();

    private OnTheRoof object = new OnTheRoof();
    private int calls;

    /** How many calls a new object would have behind it. */
    int changes() {
        return changes.size();
    }

    private long changed(ToLongFunction<OnTheRoof> call) {
        long answer = make(call);
        changes.add(new Change(call, answer));
        return answer;
    }

    /** Of a call that changes nothing, unless it is refused, and then its answer is below NONE. */
    private long asked(ToLongFunction<OnTheRoof> call) {
        long answer = make(call);
        if (answer < OnTheRoof.NONE) {
            changes.add(new Change(call, answer));
        }
        return answer;
    }

    /** Of a call that changes nothing and is never refused, too. */
    private long make(ToLongFunction<OnTheRoof> call) {
        if (calls == MOST_CALLS) {
            beginAnew();
        }
        calls++;
        return call.applyAsLong(object);
    }

    private void beginAnew() {
        if (changes.size() >= MOST_CALLS) {
            throw new IllegalStateException("more changes than one object is promised to take");
        }
        object = new OnTheRoof();
        for (Change change : changes) {
            if (change.call().applyAsLong(object) != change.answer()) {
                throw new IllegalStateException("an answer hung upon calls that change nothing");
            }
        }
        calls = changes.size();
    }

    int row(int s, int sort, int n) {
        return (int) changed(x -> x.row(s, sort, n));
    }

    int set(int s, int i, long v) {
        return (int) changed(x -> x.set(s, i, v));
    }

    int copy(int p, int q, int i, int j, int n) {
        return (int) changed(x -> x.copy(p, q, i, j, n));
    }

    long element(int s, int i) {
        return make(x -> x.element(s, i));
    }

    int holds(int s) {
        return (int) make(x -> x.holds(s));
    }

    int show(int s, int bend) {
        return (int) changed(x -> x.show(s, bend));
    }

    int says(int s, int kind) {
        return (int) asked(x -> x.says(s, kind));
    }

    int bend(int kind, int a, int yards, int people) {
        return (int) changed(x -> x.bend(kind, a, yards, people));
    }

    int ask(int what, int v) {
        return (int) changed(x -> x.ask(what, v));
    }

    int sign(int bend, boolean is, int sure) {
        return (int) changed(x -> x.sign(bend, is, sure));
    }

    int anew() {
        return (int) changed(x -> x.anew());
    }

    int feed(int letter) {
        return (int) changed(x -> x.feed(letter));
    }

    int wipe() {
        return (int) changed(x -> x.wipe());
    }

    int way() {
        return (int) changed(x -> x.way());
    }

    int bendOf(int bend, int what) {
        return (int) asked(x -> x.bendOf(bend, what));
    }

    int signOf(int i, int what) {
        return (int) asked(x -> x.signOf(i, what));
    }

    int fall(int bend, int pace) {
        return (int) asked(x -> x.fall(bend, pace));
    }

    int fell(int bend, int pace) {
        return (int) asked(x -> x.fell(bend, pace));
    }

    int weight(int bend) {
        return (int) asked(x -> x.weight(bend));
    }

    int likely(int bend) {
        return (int) asked(x -> x.likely(bend));
    }

    int between(int bend, int other) {
        return (int) asked(x -> x.between(bend, other));
    }

    int half() {
        return (int) asked(x -> x.half());
    }

    int few(int v) {
        return (int) asked(x -> x.few(v));
    }

    int asks() {
        return (int) asked(x -> x.asks());
    }

    int after(int bend, boolean is, int sure) {
        return (int) asked(x -> x.after(bend, is, sure));
    }

    int where() {
        return (int) asked(x -> x.where());
    }

    int seconds(int bend, int look) {
        return (int) asked(x -> x.seconds(bend, look));
    }

    int found(int bend, int look) {
        return (int) asked(x -> x.found(bend, look));
    }

    int best(int seconds, int i) {
        return (int) asked(x -> x.best(seconds, i));
    }

    int next() {
        return (int) asked(x -> x.next());
    }

    int soonest(int v) {
        return (int) asked(x -> x.soonest(v));
    }

    int order(int i) {
        return (int) asked(x -> x.order(i));
    }

    int vain(int n) {
        return (int) asked(x -> x.vain(n));
    }

    int others(int n) {
        return (int) asked(x -> x.others(n));
    }

    int fast(int v) {
        return (int) asked(x -> x.fast(v));
    }

    int drove(int bend) {
        return (int) asked(x -> x.drove(bend));
    }

    int gripFor(int v) {
        return (int) asked(x -> x.gripFor(v));
    }

    int otherwise() {
        return (int) asked(x -> x.otherwise());
    }

    int slows(int k) {
        return (int) asked(x -> x.slows(k));
    }

    int without(int bend) {
        return (int) asked(x -> x.without(bend));
    }

    int once(int n) {
        return (int) asked(x -> x.once(n));
    }

    int until(int v) {
        return (int) asked(x -> x.until(v));
    }

    int worst() {
        return (int) asked(x -> x.worst());
    }

    int last() {
        return (int) asked(x -> x.last());
    }

    int call(int bend, int minutes, int knows) {
        return (int) changed(x -> x.call(bend, minutes, knows));
    }

    int callOf(int call, int what) {
        return (int) asked(x -> x.callOf(call, what));
    }

    int hears(int call) {
        return (int) asked(x -> x.hears(call));
    }

    int rings(int minutes) {
        return (int) asked(x -> x.rings(minutes));
    }

    int worth(int n, int price, int cost) {
        return (int) asked(x -> x.worth(n, price, cost));
    }

    int judge(int s, int n) {
        return (int) asked(x -> x.judge(s, n));
    }

    int apart(int s, int n) {
        return (int) asked(x -> x.apart(s, n));
    }

    int search(int s, int n, int what) {
        return (int) asked(x -> x.search(s, n, what));
    }

    int lies(int bend) {
        return (int) changed(x -> x.lies(bend));
    }

    int drive() {
        return (int) changed(x -> x.drive());
    }

    int look(int bend, int look) {
        return (int) changed(x -> x.look(bend, look));
    }

    int trips(int n) {
        return (int) changed(x -> x.trips(n));
    }

    int seed(int v) {
        return (int) changed(x -> x.seed(v));
    }

    int image() {
        return (int) changed(x -> x.image());
    }

    int back() {
        return (int) changed(x -> x.back());
    }

    int status(int what) {
        return (int) make(x -> x.status(what));
    }
}

import java.util.ArrayList;
import java.util.List;
import java.util.function.ToLongFunction;

/**
 * The face of the class for the tests. What an object answers is promised for 512 calls alone, and a
 * test may want to look at more: then a new object takes its place, to which all calls are made again
 * that may have changed the one before (those that threw are among them, for they mustn't).
 */
final class Yards {
    static final int MOST_CALLS = 512;

    private final List<ToLongFunction<ImageYard>> changes = new ArrayList<>();
    private ImageYard asked = new ImageYard();
    private int calls;

    /** Another one to which the same calls have been made. */
    Yards twin() {
        Yards twin = new Yards();
        twin.changes.addAll(changes);
        twin.calls = MOST_CALLS;
        return twin;
    }

    /** How many calls may still be made that change something, if one more is to be asked then. */
    int left() {
        return MOST_CALLS - 1 - changes.size();
    }

    private ImageYard next() {
        if (calls == MOST_CALLS) {
            makeAnew();
        }
        calls++;
        return asked;
    }

    private void makeAnew() {
        if (changes.size() >= MOST_CALLS) {
            throw new AssertionError("this test makes more than 512 calls that change something");
        }
        asked = new ImageYard();
        calls = changes.size();
        for (ToLongFunction<ImageYard> change : changes) {
            try {
                change.applyAsLong(asked);
            } catch (RuntimeException e) {
                // It threw the first time, too, and a test has looked at that.
                continue;
            }
        }
    }

    private long change(ToLongFunction<ImageYard> call) {
        ImageYard x = next();
        changes.add(call);
        return call.applyAsLong(x);
    }

    private long ask(ToLongFunction<ImageYard> call) {
        ImageYard x = next();
        try {
            return call.applyAsLong(x);
        } catch (RuntimeException e) {
            changes.add(call);
            throw e;
        }
    }

    private void act(java.util.function.Consumer<ImageYard> call) {
        change(x -> {
            call.accept(x);
            return 0;
        });
    }

    int put(int signs) {
        return (int) (signs == 0 ? ask(x -> x.put(0)) : change(x -> x.put(signs)));
    }

    void end(int n) {
        act(x -> x.end(n));
    }

    int build(int yard, int tag) {
        return (int) change(x -> x.build(yard, tag));
    }

    int built(int what) {
        return (int) ask(x -> x.built(what));
    }

    long tag(int yard, int tag) {
        return ask(x -> x.tag(yard, tag));
    }

    void retag(int yard, int tag, int from) {
        act(x -> x.retag(yard, tag, from));
    }

    void untag(int yard, int tag) {
        act(x -> x.untag(yard, tag));
    }

    int image(int yard, int tag, int what) {
        return (int) ask(x -> x.image(yard, tag, what));
    }

    long layer(int yard, int tag, int i) {
        return ask(x -> x.layer(yard, tag, i));
    }

    int entry(int yard, int tag, int i, int k, int what) {
        return (int) ask(x -> x.entry(yard, tag, i, k, what));
    }

    int blob(int yard, long digest) {
        return (int) ask(x -> x.blob(yard, digest));
    }

    int byteOf(int yard, long digest, int k) {
        return (int) ask(x -> x.byteOf(yard, digest, k));
    }

    int yard(int yard, int what) {
        return (int) ask(x -> x.yard(yard, what));
    }

    int journal(int yard, int k) {
        return (int) ask(x -> x.journal(yard, k));
    }

    void sync(int yard) {
        act(x -> x.sync(yard));
    }

    int crash(int yard, int n, int spoilt) {
        return (int) change(x -> x.crash(yard, n, spoilt));
    }

    int collect(int yard) {
        return (int) change(x -> x.collect(yard));
    }

    int send(int yard, int tag, int there) {
        return (int) change(x -> x.send(yard, tag, there));
    }

    int deliver(int transfer) {
        return (int) change(x -> x.deliver(transfer));
    }

    void lose(int transfer, boolean lost) {
        act(x -> x.lose(transfer, lost));
    }

    int transfer(int transfer, int what) {
        return (int) ask(x -> x.transfer(transfer, what));
    }
}

import java.lang.management.ManagementFactory;

/** All calls of a run live in one room: what an object needs is made with it, and no call makes more. */
public final class RoomTest {
    private static final int MOST_BYTES_OF_AN_OBJECT = 300_000;

    private final com.sun.management.ThreadMXBean threads =
            (com.sun.management.ThreadMXBean) ManagementFactory.getThreadMXBean();
    private final int[] sums = new int[1];

    public static void main(String[] args) {
        Check check = new Check();
        new RoomTest().run(check);
        check.end();
    }

    private long made() {
        return threads.getThreadAllocatedBytes(Thread.currentThread().getId());
    }

    private void run(Check check) {
        calls(new ImageYard());
        long before = made();
        long nothing = made() - before;
        before = made();
        sums[0] += new ImageYard().put(0);
        long object = made() - before - nothing;
        check.holds("an object has at most " + MOST_BYTES_OF_AN_OBJECT + " bytes (it has " + object + ")",
                object <= MOST_BYTES_OF_AN_OBJECT);
        long least = Long.MAX_VALUE;
        for (int i = 0; i < 5; i++) {
            // The measuring itself may make some bytes, so the least of some runs is looked at.
            ImageYard fresh = new ImageYard();
            before = made();
            calls(fresh);
            least = Math.min(least, made() - before - nothing);
        }
        check.holds("the calls make no objects (they made " + least + " bytes)", least <= 1000);
    }

    private void calls(ImageYard x) {
        String text = "FROM empty\nENV v w\nCOPY a $v\nRUN mkdir d;put d/e f;add a g;join a d/e;move d h;rm h/e";
        for (int i = 0; i < text.length(); i++) {
            x.put(text.charAt(i));
        }
        for (int tag = 0; tag < 8; tag++) {
            sums[0] += x.build(tag % 2, tag);
        }
        x.retag(0, 1, 0);
        x.untag(0, 1);
        sums[0] += x.image(0, 0, 2) + x.entry(0, 0, 0, 0, 1) + (int) x.layer(0, 0, 0) + (int) x.tag(0, 0);
        sums[0] += x.blob(0, x.tag(0, 0)) + x.byteOf(0, x.tag(0, 0), 0) + x.yard(0, 2) + x.journal(0, 0);
        x.sync(0);
        x.untag(1, 1);
        x.untag(1, 3);
        x.untag(1, 5);
        x.untag(1, 7);
        sums[0] += x.collect(1) + x.send(0, 0, 0) + x.built(1) + x.transfer(0, 0);
        x.lose(0, true);
        x.lose(0, false);
        for (int i = 0; i < 6; i++) {
            sums[0] += x.deliver(0);
        }
        sums[0] += x.crash(1, 30, 20);
        x.end(0);
    }
}

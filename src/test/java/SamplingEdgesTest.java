/** The boundary cases that the document names of SAMPLING and QUEUES (Terms), a test each. */
public final class SamplingEdgesTest {
    private static final Check CHECK = new Check();
    private static final String TERMS = "Terms";
    private static final long MAX = Long.MAX_VALUE;
    private static final long MIN = Long.MIN_VALUE;

    public static void main(String[] args) {
        CHECK.sentence(TERMS, "a QUEUE of up to SIZE entries", SamplingEdgesTest::upToSize);
        CHECK.sentence(TERMS, "(a value, the TIME of its sampling, a BIT)", SamplingEdgesTest::valueAndTime);
        CHECK.sentence(TERMS, "taken if it is the first one since its MODE was OFF", SamplingEdgesTest::firstSinceOff);
        CHECK.sentence(TERMS, "(or it was made)", SamplingEdgesTest::firstSinceMade);
        CHECK.sentence(TERMS, "its difference from the one taken last", SamplingEdgesTest::fromTheOneTakenLast);
        CHECK.sentence(TERMS, "is greater than BAND", SamplingEdgesTest::greaterThanBand);
        CHECK.sentence(TERMS, "(the difference of the numbers, that does not go round)",
            SamplingEdgesTest::doesNotGoRound);
        CHECK.sentence(TERMS, "Taken, it comes behind the QUEUE with no BIT.", SamplingEdgesTest::behindTheQueue);
        CHECK.sentence(TERMS, "If SIZE entries are there already", SamplingEdgesTest::onlyIfFull);
        CHECK.sentence(TERMS, "OLDEST: the first one goes, and the first one then has the BIT",
            SamplingEdgesTest::oldest);
        CHECK.sentence(TERMS, "else it comes in place of the last one, and has the BIT.", SamplingEdgesTest::newest);
        CHECK.sentence(TERMS, "(With SIZE 1 no entry ever has it.)", SamplingEdgesTest::sizeOne);
        CHECK.done();
    }

    /** ITEM 0 on NODE 1, SAMPLED each TICK, its SUBSCRIPTION publishes at TIME 100. */
    private static WatchServer watching(int size, boolean oldest, long band) {
        WatchServer x = Scene.client();
        x.subscribe(0, 100, 1, 100, 0);
        x.item(0, 0, 1, 1, size, oldest, 2, band);
        return x;
    }

    /** What is in the QUEUE, each as value, TIME, BIT. */
    private static void queueDue(WatchServer x, long[][] due) {
        CHECK.due("entries of the QUEUE", x.itemOf(0, 3), due.length);
        x.publish(0, -1, 0);
        x.tick(100 - x.status(0));
        CHECK.due("entries of the MESSAGE", x.message(0, 2), due.length);
        for (int i = 0; i < due.length; i++) {
            CHECK.due("value of entry " + i, x.entry(0, i, 0), due[i][0]);
            CHECK.due("TIME of entry " + i, x.entry(0, i, 2), due[i][1]);
            CHECK.due("BIT of entry " + i, x.entry(0, i, 3), due[i][2]);
        }
    }

    private static void upToSize() {
        for (int size = 1; size <= 8; size++) {
            WatchServer x = watching(size, size % 2 == 0, 0);
            for (int v = 1; v <= 9; v++) {
                Scene.changeAndTick(x, v);
                CHECK.due("SIZE " + size, x.itemOf(0, 3), Math.min(size, v + 1));
            }
        }
    }

    private static void valueAndTime() {
        WatchServer x = watching(8, true, 0);
        x.tick(4);
        Scene.changeAndTick(x, MIN);
        Scene.changeAndTick(x, MAX);
        queueDue(x, new long[][] {{0, 0, 0}, {MIN, 5, 0}, {MAX, 6, 0}});
    }

    private static void firstSinceOff() {
        WatchServer x = watching(8, true, MAX);
        x.tick(2);
        CHECK.due("the same VALUE is not taken", x.itemOf(0, 3), 1);
        x.mode(0, 0, 1);
        x.mode(0, 0, 2);
        x.tick(2);
        CHECK.due("nor after MODE 1", x.itemOf(0, 3), 1);
        x.mode(0, 0, 0);
        x.mode(0, 0, 2);
        x.tick(2);
        CHECK.due("after MODE 0 it is, once", x.itemOf(0, 3), 1);
        queueDue(x, new long[][] {{0, 4, 0}});
    }

    private static void firstSinceMade() {
        WatchServer x = Scene.client();
        x.subscribe(0, 100, 1, 100, 0);
        x.item(0, 0, 1, 1, 8, true, 0, MAX);
        x.tick(3);
        CHECK.due("made OFF", x.itemOf(0, 3), 0);
        x.mode(0, 0, 2);
        CHECK.due("the first one, though 0 and no difference", x.itemOf(0, 3), 1);
        x.tick(3);
        queueDue(x, new long[][] {{0, 3, 0}});
    }

    private static void fromTheOneTakenLast() {
        WatchServer x = watching(8, true, 2);
        for (int v = 1; v <= 5; v++) {
            Scene.changeAndTick(x, v);
        }
        queueDue(x, new long[][] {{0, 0, 0}, {3, 3, 0}});
        Scene.changeAndTick(x, 1);
        CHECK.due("also from the 3, that left the QUEUE: 1", x.itemOf(0, 3), 0);
        Scene.changeAndTick(x, 0);
        CHECK.due("and 0", x.itemOf(0, 3), 1);
        WatchServer y = watching(2, false, 2);
        for (int v : new int[] {3, 6, 8, 9}) {
            Scene.changeAndTick(y, v);
        }
        queueDue(y, new long[][] {{0, 0, 0}, {9, 4, 1}});
    }

    private static void greaterThanBand() {
        for (long band : new long[] {0, 1, 5, 1L << 32, MAX - 1}) {
            WatchServer x = watching(8, true, band);
            Scene.changeAndTick(x, band);
            CHECK.due("as much as BAND " + band, x.itemOf(0, 3), 1);
            Scene.changeAndTick(x, -band);
            CHECK.due("as much below", x.itemOf(0, 3), 1);
            Scene.changeAndTick(x, -band - 1);
            CHECK.due("1 more, below", x.itemOf(0, 3), 2);
            Scene.changeAndTick(x, -1);
            CHECK.due("as much above", x.itemOf(0, 3), 2);
            Scene.changeAndTick(x, 0);
            CHECK.due("1 more, above", x.itemOf(0, 3), 3);
        }
    }

    private static void doesNotGoRound() {
        long[][] taken = {{MIN, MAX, 1}, {MAX, MIN, 1}, {MIN, MAX, MAX}, {MAX, MIN, MAX}, {MIN, 0, MAX}, {0, MIN, MAX},
            {-1, MAX, MAX}, {MAX, -1, MAX}, {MIN + 1, MAX, 0}, {1L << 62, -(1L << 62) - 1, MAX}};
        for (long[] t : taken) {
            CHECK.due("from " + t[0] + " to " + t[1] + ", BAND " + t[2], taken(t), 2);
        }
        long[][] within = {{0, MAX, MAX}, {MAX, 0, MAX}, {-1, MIN, MAX}, {MIN, -1, MAX}, {-1, MAX - 1, MAX},
            {1L << 62, -(1L << 62) + 1, MAX}, {MIN, MIN, 0}, {MAX, MAX, 0}};
        for (long[] t : within) {
            CHECK.due("from " + t[0] + " to " + t[1] + ", BAND " + t[2], taken(t), 1);
        }
    }

    /** How many of a first VALUE and a second one are taken with a BAND. */
    private static int taken(long[] firstAndSecondAndBand) {
        WatchServer x = Scene.client();
        x.subscribe(0, 100, 1, 100, 0);
        x.change(1, firstAndSecondAndBand[0]);
        x.item(0, 0, 1, 1, 8, true, 2, firstAndSecondAndBand[2]);
        Scene.changeAndTick(x, firstAndSecondAndBand[1]);
        return x.itemOf(0, 3);
    }

    private static void behindTheQueue() {
        WatchServer x = watching(3, true, 0);
        Scene.changeAndTick(x, 2);
        Scene.changeAndTick(x, 1);
        queueDue(x, new long[][] {{0, 0, 0}, {2, 1, 0}, {1, 2, 0}});
        WatchServer y = watching(3, false, 0);
        Scene.changeAndTick(y, 2);
        Scene.changeAndTick(y, 1);
        queueDue(y, new long[][] {{0, 0, 0}, {2, 1, 0}, {1, 2, 0}});
    }

    private static void onlyIfFull() {
        for (int rule = 0; rule <= 1; rule++) {
            WatchServer x = Scene.client();
            x.subscribe(0, 2, 1, 100, 1);
            x.item(0, 0, 1, 1, 2, rule == 1, 2, 0);
            Scene.changeAndTick(x, 1);
            CHECK.due("full", x.itemOf(0, 3), 2);
            x.publish(0, -1, 0);
            x.tick(1);
            CHECK.due("one left", x.itemOf(0, 3), 1);
            Scene.changeAndTick(x, 2);
            CHECK.due("there was room for one", x.itemOf(0, 3), 2);
            x.publish(0, -1, 0);
            x.publish(0, -1, 0);
            x.tick(1);
            CHECK.due("none went", x.entry(1, 0, 0) * 10 + x.entry(2, 0, 0), 12);
            CHECK.due("no BIT", x.entry(1, 0, 3) + x.entry(2, 0, 3), 0);
        }
    }

    private static void oldest() {
        WatchServer x = watching(3, true, 0);
        for (int v = 1; v <= 3; v++) {
            Scene.changeAndTick(x, v);
        }
        queueDue(x, new long[][] {{1, 1, 1}, {2, 2, 0}, {3, 3, 0}});
        WatchServer y = watching(3, true, 0);
        for (int v = 1; v <= 5; v++) {
            Scene.changeAndTick(y, v);
        }
        queueDue(y, new long[][] {{3, 3, 1}, {4, 4, 0}, {5, 5, 0}});
        WatchServer z = watching(2, true, 0);
        Scene.changeAndTick(z, 1);
        Scene.changeAndTick(z, 2);
        queueDue(z, new long[][] {{1, 1, 1}, {2, 2, 0}});
    }

    private static void newest() {
        WatchServer x = watching(3, false, 0);
        for (int v = 1; v <= 3; v++) {
            Scene.changeAndTick(x, v);
        }
        queueDue(x, new long[][] {{0, 0, 0}, {1, 1, 0}, {3, 3, 1}});
        WatchServer y = watching(3, false, 0);
        for (int v = 1; v <= 5; v++) {
            Scene.changeAndTick(y, v);
        }
        queueDue(y, new long[][] {{0, 0, 0}, {1, 1, 0}, {5, 5, 1}});
        WatchServer z = watching(2, false, 0);
        Scene.changeAndTick(z, 1);
        Scene.changeAndTick(z, 2);
        queueDue(z, new long[][] {{0, 0, 0}, {2, 2, 1}});
    }

    private static void sizeOne() {
        for (int rule = 0; rule <= 1; rule++) {
            WatchServer x = watching(1, rule == 1, 0);
            for (int v = 1; v <= 3; v++) {
                Scene.changeAndTick(x, v);
                CHECK.due("the first of them", x.itemOf(0, 4), 0);
            }
            queueDue(x, new long[][] {{3, 3, 0}});
        }
    }
}

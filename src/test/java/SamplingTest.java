/** SAMPLING: which VALUES are taken, when, and what a full QUEUE does (promises 5, 18, 19, 26, 29). */
public final class SamplingTest {
    private static final Check CHECK = new Check();

    public static void main(String[] args) {
        intervals();
        bands();
        bandsDoNotGoRound();
        bandOfTheOneTakenLast();
        oldestGoes();
        newestGoes();
        sizeOne();
        bitLeavesWithItsEntry();
        CHECK.done();
    }

    private static WatchServer watching(int interval, int size, boolean oldest, long band) {
        WatchServer x = Scene.client();
        x.subscribe(0, 100, 1, 100, 0);
        x.tick(1);
        x.item(0, 0, 1, interval, size, oldest, 2, band);
        return x;
    }

    private static void entriesDue(String what, WatchServer x, long[][] due) {
        x.tick(100 - x.status(0));
        CHECK.due(what + ": LATE by now", x.publish(0, -1, 0), 1);
        CHECK.due(what + ": how many", x.message(0, 2), due.length);
        for (int i = 0; i < due.length; i++) {
            CHECK.due(what + ": value " + i, x.entry(0, i, 0), due[i][0]);
            CHECK.due(what + ": ITEM " + i, x.entry(0, i, 1), 0);
            CHECK.due(what + ": TIME " + i, x.entry(0, i, 2), due[i][1]);
            CHECK.due(what + ": BIT " + i, x.entry(0, i, 3), due[i][2]);
        }
    }

    private static void intervals() {
        WatchServer x = watching(3, 8, true, 0);
        for (int v = 1; v <= 7; v++) {
            Scene.changeAndTick(x, v);
        }
        entriesDue("INTERVAL 3 from BORN 1", x, new long[][] {{0, 1, 0}, {3, 4, 0}, {6, 7, 0}, {7, 10, 0}});
    }

    private static void bands() {
        WatchServer x = watching(1, 8, true, 5);
        long[] values = {5, -5, 6, 5, 0, -1, 4, 5};
        for (long v : values) {
            Scene.changeAndTick(x, v);
        }
        entriesDue("BAND 5", x, new long[][] {{0, 1, 0}, {6, 4, 0}, {0, 6, 0}});
        WatchServer y = watching(1, 8, true, 0);
        Scene.changeAndTick(y, 1);
        y.tick(3);
        Scene.changeAndTick(y, 0);
        entriesDue("BAND 0", y, new long[][] {{0, 1, 0}, {1, 2, 0}, {0, 6, 0}});
    }

    private static void bandsDoNotGoRound() {
        long max = Long.MAX_VALUE;
        long min = Long.MIN_VALUE;
        WatchServer x = watching(1, 8, true, max);
        Scene.changeAndTick(x, max);
        Scene.changeAndTick(x, -max);
        Scene.changeAndTick(x, min);
        Scene.changeAndTick(x, -1);
        Scene.changeAndTick(x, 0);
        Scene.changeAndTick(x, max);
        Scene.changeAndTick(x, -1);
        entriesDue("largest BAND", x, new long[][] {{0, 1, 0}, {min, 4, 0}, {0, 6, 0}});
        WatchServer y = watching(1, 8, true, 0);
        Scene.changeAndTick(y, max);
        Scene.changeAndTick(y, min);
        Scene.changeAndTick(y, max);
        entriesDue("smallest BAND", y, new long[][] {{0, 1, 0}, {max, 2, 0}, {min, 3, 0}, {max, 4, 0}});
    }

    private static void bandOfTheOneTakenLast() {
        WatchServer x = watching(1, 8, true, 2);
        for (int v = 1; v <= 7; v++) {
            Scene.changeAndTick(x, v);
        }
        entriesDue("steps of 1, BAND 2", x, new long[][] {{0, 1, 0}, {3, 4, 0}, {6, 7, 0}});
    }

    private static void oldestGoes() {
        WatchServer x = watching(1, 3, true, 0);
        Scene.changeAndTick(x, 1);
        Scene.changeAndTick(x, 2);
        CHECK.due("full, no BIT", x.itemOf(0, 4), 0);
        Scene.changeAndTick(x, 3);
        CHECK.due("never more than SIZE", x.itemOf(0, 3), 3);
        CHECK.due("the first one has the BIT", x.itemOf(0, 4), 1);
        Scene.changeAndTick(x, 4);
        entriesDue("OLDEST", x, new long[][] {{2, 3, 1}, {3, 4, 0}, {4, 5, 0}});
        WatchServer y = watching(1, 2, true, 0);
        Scene.changeAndTick(y, 1);
        Scene.changeAndTick(y, 2);
        entriesDue("OLDEST, SIZE 2", y, new long[][] {{1, 2, 1}, {2, 3, 0}});
    }

    private static void newestGoes() {
        WatchServer x = watching(1, 3, false, 0);
        for (int v = 1; v <= 4; v++) {
            Scene.changeAndTick(x, v);
        }
        CHECK.due("never more than SIZE", x.itemOf(0, 3), 3);
        CHECK.due("the first one has no BIT", x.itemOf(0, 4), 0);
        entriesDue("newest", x, new long[][] {{0, 1, 0}, {1, 2, 0}, {4, 5, 1}});
        WatchServer y = watching(1, 8, false, 0);
        for (int v = 1; v <= 8; v++) {
            Scene.changeAndTick(y, v);
        }
        CHECK.due("largest SIZE", y.itemOf(0, 3), 8);
        entriesDue("newest, SIZE 8", y, new long[][] {{0, 1, 0}, {1, 2, 0}, {2, 3, 0}, {3, 4, 0}, {4, 5, 0},
            {5, 6, 0}, {6, 7, 0}, {8, 9, 1}});
    }

    private static void sizeOne() {
        WatchServer x = watching(1, 1, true, 0);
        Scene.changeAndTick(x, 1);
        Scene.changeAndTick(x, 2);
        entriesDue("OLDEST, SIZE 1", x, new long[][] {{2, 3, 0}});
        WatchServer y = watching(1, 1, false, 0);
        Scene.changeAndTick(y, 1);
        Scene.changeAndTick(y, 2);
        entriesDue("newest, SIZE 1", y, new long[][] {{2, 3, 0}});
    }

    private static void bitLeavesWithItsEntry() {
        WatchServer x = Scene.client();
        x.subscribe(0, 4, 1, 100, 1);
        x.item(0, 0, 1, 1, 2, true, 2, 0);
        for (int v = 1; v <= 4; v++) {
            Scene.changeAndTick(x, v);
        }
        CHECK.due("the first one has the BIT", x.itemOf(0, 4), 1);
        CHECK.due("LATE", x.publish(0, -1, 0), 1);
        CHECK.due("it left with the BIT", x.entry(0, 0, 3), 1);
        CHECK.due("what is first now has none", x.itemOf(0, 4), 0);
        Scene.changeAndTick(x, 5);
        CHECK.due("no BIT while there is room", x.itemOf(0, 4), 0);
        CHECK.due("two of them", x.itemOf(0, 3), 2);
    }
}

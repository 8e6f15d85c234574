/** The boundary cases that the document names of browse, read, value and write (promises 9 to 12), a test each. */
public final class BrowseReadWriteEdgesTest {
    private static final Check CHECK = new Check();
    private static final int[] NO_NODES = {3, -1, Integer.MIN_VALUE, Integer.MAX_VALUE};

    public static void main(String[] args) {
        String nine = "Promise 9: browse";
        CHECK.sentence(nine, "the NODE at the other end", BrowseReadWriteEdgesTest::otherEnds);
        CHECK.sentence(nine, "of the i-th REFERENCE (by numbers)", BrowseReadWriteEdgesTest::byNumbers);
        CHECK.sentence(nine, "that begins there (way 0)", BrowseReadWriteEdgesTest::begins);
        CHECK.sentence(nine, "ends there (1)", BrowseReadWriteEdgesTest::ends);
        CHECK.sentence(nine, "or either (2;", BrowseReadWriteEdgesTest::either);
        CHECK.sentence(nine, "one from it to itself counts once)", BrowseReadWriteEdgesTest::itselfOnce);
        CHECK.sentence(nine, "whose TYPE is among the bits of types", BrowseReadWriteEdgesTest::typeBits);
        CHECK.sentence(nine, "-1; -2; -3;", BrowseReadWriteEdgesTest::browseSessions);
        CHECK.sentence(nine, "-4;", BrowseReadWriteEdgesTest::browseNodes);
        CHECK.sentence(nine, "-7 way", BrowseReadWriteEdgesTest::browseWays);
        CHECK.sentence(nine, "-9 there is none.", BrowseReadWriteEdgesTest::browseNone);
        String ten = "Promise 10: read";
        CHECK.sentence(ten, "and value() tells it as it was", BrowseReadWriteEdgesTest::asItWas);
        CHECK.sentence(ten, "-1; -2; -3;", BrowseReadWriteEdgesTest::readSessions);
        CHECK.sentence(ten, "-4.", BrowseReadWriteEdgesTest::readNodes);
        String eleven = "Promise 11: value";
        CHECK.sentence(eleven, "the latest read() told", BrowseReadWriteEdgesTest::latestRead);
        CHECK.sentence(eleven, "that was not refused", BrowseReadWriteEdgesTest::refusedReads);
        CHECK.sentence(eleven, "0 without one.", BrowseReadWriteEdgesTest::withoutRead);
        String twelve = "Promise 12: write";
        CHECK.sentence(twelve, "a VARIABLE's VALUE becomes v: 1", BrowseReadWriteEdgesTest::becomes);
        CHECK.sentence(twelve, "-1; -2; -3;", BrowseReadWriteEdgesTest::writeSessions);
        CHECK.sentence(twelve, "-4 (", BrowseReadWriteEdgesTest::writeNodes);
        CHECK.sentence(twelve, "also one that may not be written)", BrowseReadWriteEdgesTest::notWritten);
        CHECK.done();
    }

    /** REFERENCES 0: 0 to 1, 1: 2 to 0, 2: 0 to 0, 3: 0 to 2, of the TYPES 0, 7, 3, 0. */
    private static WatchServer referred() {
        WatchServer x = Scene.clients();
        x.refer(0, 1, 0);
        x.refer(2, 0, 7);
        x.refer(0, 0, 3);
        x.refer(0, 2, 0);
        return x;
    }

    private static void found(WatchServer x, int node, int way, int types, int... ends) {
        String what = "way " + way + " of NODE " + node + ", types " + types + ", ";
        for (int i = 0; i < ends.length; i++) {
            CHECK.due(what + i, x.browse(0, node, way, types, i), ends[i]);
        }
        CHECK.due(what + "one more", x.browse(0, node, way, types, ends.length), -9);
    }

    private static void otherEnds() {
        WatchServer x = referred();
        found(x, 1, 1, 255, 0);
        found(x, 2, 0, 255, 0);
        found(x, 2, 2, 255, 0, 0);
        found(x, 0, 2, 8, 0);
    }

    private static void byNumbers() {
        WatchServer x = referred();
        x.refer(0, 1, 5);
        found(x, 0, 2, 255, 1, 2, 0, 2, 1);
    }

    private static void begins() {
        WatchServer x = referred();
        found(x, 0, 0, 255, 1, 0, 2);
        found(x, 1, 0, 255);
    }

    private static void ends() {
        WatchServer x = referred();
        found(x, 0, 1, 255, 2, 0);
        found(x, 2, 1, 255, 0);
    }

    private static void either() {
        WatchServer x = referred();
        found(x, 0, 2, 255, 1, 2, 0, 2);
        found(x, 1, 2, 255, 0);
    }

    private static void itselfOnce() {
        WatchServer x = Scene.client();
        x.refer(1, 1, 4);
        for (int way = 0; way <= 2; way++) {
            found(x, 1, way, 16, 1);
        }
    }

    private static void typeBits() {
        WatchServer x = Scene.client();
        for (int type = 0; type <= 7; type++) {
            x.refer(0, type % 3, type);
        }
        for (int type = 0; type <= 7; type++) {
            found(x, 0, 0, 1 << type, type % 3);
        }
        found(x, 0, 0, 0);
        found(x, 0, 0, 129, 0, 1);
        found(x, 0, 0, 256);
        found(x, 0, 0, Integer.MIN_VALUE);
        found(x, 0, 0, -1, 0, 1, 2, 0, 1, 2, 0, 1);
    }

    private static void browseSessions() {
        WatchServer x = referred();
        CHECK.refusesSessions(x, "browse", s -> x.browse(s, 0, 0, 255, 0));
        CHECK.refusesSessions(x, "browse, all wrong", s -> x.browse(s, 9, 9, 0, -1));
        CHECK.due("else it is told", x.browse(0, 0, 0, 255, 0), 1);
    }

    private static void browseNodes() {
        WatchServer x = referred();
        for (int node : NO_NODES) {
            CHECK.refused(x, "NODE " + node, -4, () -> x.browse(0, node, 0, 255, 0));
            CHECK.refused(x, "NODE before way", -4, () -> x.browse(0, node, 3, 255, 99));
        }
    }

    private static void browseWays() {
        WatchServer x = referred();
        for (int way : new int[] {3, -1, Integer.MIN_VALUE, Integer.MAX_VALUE}) {
            CHECK.refused(x, "way " + way, -7, () -> x.browse(0, 0, way, 255, 0));
            CHECK.refused(x, "way before none", -7, () -> x.browse(0, 0, way, 255, 99));
        }
    }

    private static void browseNone() {
        WatchServer x = referred();
        for (int i : new int[] {4, -1, Integer.MIN_VALUE, Integer.MAX_VALUE}) {
            CHECK.refused(x, "i " + i, -9, () -> x.browse(0, 0, 2, 255, i));
        }
        CHECK.refused(x, "of no TYPE", -9, () -> x.browse(0, 0, 2, 0, 0));
        CHECK.refused(x, "of another TYPE", -9, () -> x.browse(0, 0, 2, 2, 0));
        WatchServer y = Scene.client();
        CHECK.refused(y, "without REFERENCES", -9, () -> y.browse(0, 0, 2, 255, 0));
    }

    private static void asItWas() {
        WatchServer x = Scene.client();
        x.change(1, 5);
        CHECK.due("read", x.read(0, 1), 0);
        x.change(1, 6);
        CHECK.due("as it was then", x.value(), 5);
        CHECK.due("read again", x.read(0, 1), 0);
        CHECK.due("as it is now", x.value(), 6);
    }

    private static void readSessions() {
        WatchServer x = Scene.clients();
        x.change(1, 5);
        CHECK.refusesSessions(x, "read", s -> x.read(s, 1));
        CHECK.refusesSessions(x, "read of no NODE", s -> x.read(s, 9));
        CHECK.due("else it is read", x.read(0, 1), 0);
    }

    private static void readNodes() {
        WatchServer x = Scene.client();
        for (int node : NO_NODES) {
            CHECK.refused(x, "NODE " + node, -4, () -> x.read(0, node));
        }
        CHECK.refused(x, "an OBJECT", -4, () -> x.read(0, 0));
    }

    private static void latestRead() {
        WatchServer x = Scene.clients();
        x.change(1, 5);
        x.change(2, Long.MIN_VALUE);
        x.read(0, 1);
        x.read(1, 2);
        CHECK.due("the latest of all SESSIONS", x.value(), Long.MIN_VALUE);
        x.read(0, 1);
        CHECK.due("then the first one's", x.value(), 5);
        CHECK.tells(x, "as often as asked", 5, x::value);
    }

    private static void refusedReads() {
        WatchServer x = Scene.clients();
        x.change(1, 5);
        x.read(0, 1);
        x.change(1, 6);
        int[][] refused = {{4, 1, -1}, {2, 1, -2}, {3, 1, -3}, {0, 0, -4}, {0, 3, -4}};
        for (int[] r : refused) {
            CHECK.due("refused", x.read(r[0], r[1]), r[2]);
            CHECK.due("of the one before", x.value(), 5);
        }
    }

    private static void withoutRead() {
        WatchServer x = Scene.client();
        CHECK.due("new", x.value(), 0);
        x.change(1, 5);
        x.write(0, 2, 6);
        x.read(0, 0);
        x.read(9, 1);
        CHECK.due("refused ones alone", x.value(), 0);
    }

    private static void becomes() {
        WatchServer x = Scene.clients();
        for (long v : new long[] {Long.MAX_VALUE, Long.MAX_VALUE, Long.MIN_VALUE, 0}) {
            CHECK.due("write", x.write(0, 2, v), 1);
            x.read(1, 2);
            CHECK.due("another SESSION reads it", x.value(), v);
        }
    }

    private static void writeSessions() {
        WatchServer x = Scene.clients();
        CHECK.refusesSessions(x, "write", s -> x.write(s, 2, 8));
        CHECK.refusesSessions(x, "write of no NODE", s -> x.write(s, 9, 8));
        x.read(0, 2);
        CHECK.due("nothing was written", x.value(), 0);
        CHECK.due("else it is", x.write(0, 2, 8), 1);
    }

    private static void writeNodes() {
        WatchServer x = Scene.client();
        for (int node : NO_NODES) {
            CHECK.refused(x, "NODE " + node, -4, () -> x.write(0, node, 8));
        }
        CHECK.refused(x, "an OBJECT", -4, () -> x.write(0, 0, 8));
    }

    private static void notWritten() {
        WatchServer x = Scene.client();
        x.change(1, 5);
        CHECK.refused(x, "a VARIABLE that may not be written", -4, () -> x.write(0, 1, 8));
        CHECK.refused(x, "nor with the VALUE that it has", -4, () -> x.write(0, 1, 5));
        x.read(0, 1);
        CHECK.due("its VALUE stays", x.value(), 5);
    }
}

/** The boundary cases that the document names of TIME, NODES and REFERENCES (Terms, promises 1 to 4), a test each. */
public final class NodesEdgesTest {
    private static final Check CHECK = new Check();
    private static final String TERMS = "Terms";

    public static void main(String[] args) {
        CHECK.sentence("What it is", "TIME is 0 at first.", NodesEdgesTest::timeAtFirst);
        CHECK.sentence("What it is", "An object is used for at most 512 calls", NodesEdgesTest::lastCall);
        CHECK.sentence(TERMS, "NODES have numbers from 0 on", NodesEdgesTest::nodesFromZeroOn);
        CHECK.sentence(TERMS, "(40 at most)", NodesEdgesTest::fortyNodes);
        CHECK.sentence(TERMS, "a VARIABLE with a VALUE (a long,", NodesEdgesTest::valueIsLong);
        CHECK.sentence(TERMS, "0 at first)", NodesEdgesTest::valueAtFirst);
        CHECK.sentence(TERMS, "that clients may WRITE or not", NodesEdgesTest::writeOrNot);
        CHECK.sentence(TERMS, "REFERENCES (100 at most)", NodesEdgesTest::hundredReferences);
        CHECK.sentence(TERMS, "go from one NODE to another, or the same one", NodesEdgesTest::theSameNode);
        CHECK.sentence(TERMS, "each of a TYPE 0 .. 7", NodesEdgesTest::types);
        CHECK.sentence(TERMS, "they are numbered as they were made", NodesEdgesTest::numberedAsMade);
        promises();
        CHECK.done();
    }

    private static void promises() {
        String one = "Promise 1: A new object";
        CHECK.sentence(one, "No NODES", NodesEdgesTest::newWithoutNodes);
        CHECK.sentence(one, "no SESSIONS", NodesEdgesTest::newWithoutSessions);
        String two = "Promise 2: node";
        CHECK.sentence(two, "kind 0 OBJECT, 1 VARIABLE, 2 VARIABLE that may be written.", NodesEdgesTest::kinds);
        CHECK.sentence(two, "-7 kind", NodesEdgesTest::wrongKinds);
        CHECK.sentence(two, "-8.", NodesEdgesTest::noRoomForNodes);
        String three = "Promise 3: refer";
        CHECK.sentence(three, "-4 one of both", NodesEdgesTest::referWithoutNode);
        CHECK.sentence(three, "-7 the TYPE", NodesEdgesTest::wrongTypes);
        CHECK.sentence(three, "-8.", NodesEdgesTest::noRoomForReferences);
        String four = "Promise 4: change";
        CHECK.sentence(four, "The server changes a VARIABLE's VALUE: 1.", NodesEdgesTest::changes);
        CHECK.sentence(four, "-4 it is none.", NodesEdgesTest::changesNone);
    }

    private static void timeAtFirst() {
        CHECK.due("TIME of a new object", new WatchServer().status(0), 0);
    }

    private static void lastCall() {
        WatchServer x = Scene.watcher(1, 1, 100, 0);
        // The scene took 7 calls, so that the last of these is the 512th.
        for (int calls = 7; calls < 512; calls += 5) {
            for (int k = 0; k < 4; k++) {
                CHECK.due("it waits", x.publish(0, -1, 0), 0);
            }
            CHECK.due("four are answered", x.tick(4), 4);
        }
    }

    private static void nodesFromZeroOn() {
        WatchServer x = new WatchServer();
        for (int k = 0; k < 3; k++) {
            CHECK.due("node", x.node(1), k);
        }
        x.session(1000);
        x.activate(0);
        x.change(0, 10);
        x.change(2, 12);
        x.read(0, 0);
        CHECK.due("the number 0 is the first one's", x.value(), 10);
        x.read(0, 2);
        CHECK.due("the number 2 is the third one's", x.value(), 12);
        CHECK.due("a 3 is none", x.change(3, 1), -4);
    }

    private static WatchServer fullOfNodes() {
        WatchServer x = new WatchServer();
        for (int k = 0; k < 40; k++) {
            x.node(1);
        }
        return x;
    }

    private static void fortyNodes() {
        WatchServer x = new WatchServer();
        for (int k = 0; k < 39; k++) {
            x.node(1);
        }
        CHECK.due("the 40th", x.node(1), 39);
        CHECK.due("a 41st", x.node(1), -8);
        CHECK.due("NODES", x.status(1), 40);
        CHECK.due("the 40th is there", x.change(39, 1), 1);
        CHECK.due("the 41st is not", x.change(40, 1), -4);
    }

    private static void valueIsLong() {
        WatchServer x = Scene.client();
        for (long v : new long[] {Long.MIN_VALUE, Long.MAX_VALUE, 1L << 32, -1}) {
            x.change(1, v);
            x.read(0, 1);
            CHECK.due("VALUE by the server", x.value(), v);
            x.write(0, 2, v);
            x.read(0, 2);
            CHECK.due("VALUE by a client", x.value(), v);
        }
    }

    private static void valueAtFirst() {
        WatchServer x = Scene.client();
        x.node(1);
        x.change(3, 9);
        for (int node = 1; node <= 2; node++) {
            x.read(0, 3);
            CHECK.due("another one's VALUE", x.value(), 9);
            CHECK.due("read", x.read(0, node), 0);
            CHECK.due("VALUE at first", x.value(), 0);
        }
    }

    private static void writeOrNot() {
        WatchServer x = Scene.client();
        CHECK.due("one that may be written", x.write(0, 2, 5), 1);
        CHECK.due("one that may not", x.write(0, 1, 5), -4);
    }

    private static WatchServer fullOfReferences() {
        WatchServer x = Scene.client();
        for (int k = 0; k < 100; k++) {
            x.refer(0, 1, 2);
        }
        return x;
    }

    private static void hundredReferences() {
        WatchServer x = Scene.client();
        for (int k = 0; k < 99; k++) {
            x.refer(0, 1, 2);
        }
        CHECK.due("the 100th", x.refer(0, 2, 2), 99);
        CHECK.due("a 101st", x.refer(0, 0, 2), -8);
        CHECK.due("REFERENCES", x.status(2), 100);
        CHECK.due("the 100th is there", x.browse(0, 0, 0, 4, 99), 2);
        CHECK.due("the 101st is not", x.browse(0, 0, 0, 4, 100), -9);
    }

    private static void theSameNode() {
        WatchServer x = Scene.client();
        CHECK.due("to another", x.refer(1, 2, 0), 0);
        CHECK.due("to the same one", x.refer(1, 1, 0), 1);
        CHECK.due("it ends there", x.browse(0, 1, 1, 1, 0), 1);
    }

    private static void types() {
        WatchServer x = Scene.client();
        CHECK.due("TYPE 0", x.refer(0, 1, 0), 0);
        CHECK.due("TYPE 7", x.refer(0, 2, 7), 1);
        CHECK.due("TYPE -1", x.refer(0, 1, -1), -7);
        CHECK.due("TYPE 8", x.refer(0, 1, 8), -7);
        CHECK.due("the lowest bit", x.browse(0, 0, 0, 1, 0), 1);
        CHECK.due("the bit of 7", x.browse(0, 0, 0, 128, 0), 2);
    }

    private static void numberedAsMade() {
        WatchServer x = Scene.client();
        CHECK.due("the first", x.refer(2, 1, 7), 0);
        CHECK.due("refused ones have no number", x.refer(2, 1, 8), -7);
        CHECK.due("the second", x.refer(2, 0, 0), 1);
        CHECK.due("the same again is a third", x.refer(2, 1, 7), 2);
        int[] ends = {1, 0, 1};
        for (int i = 0; i < 3; i++) {
            CHECK.due("browsed as they were made", x.browse(0, 2, 0, 255, i), ends[i]);
        }
    }

    private static void newWithoutNodes() {
        WatchServer x = new WatchServer();
        CHECK.due("NODES", x.status(1), 0);
        CHECK.due("REFERENCES", x.status(2), 0);
        CHECK.refused(x, "from 0 to 0", -4, () -> x.refer(0, 0, 0));
        CHECK.refused(x, "VALUE of 0", -4, () -> x.change(0, 1));
    }

    private static void newWithoutSessions() {
        WatchServer x = new WatchServer();
        CHECK.due("SESSIONS", x.status(3), 0);
        CHECK.due("SESSION 0", x.sessionOf(0, 0), -9);
        CHECK.due("its MAIL", x.mail(0, 0), -1);
        CHECK.refused(x, "activate 0", -1, () -> x.activate(0));
        for (int what = 4; what <= 6; what++) {
            CHECK.due("status " + what, x.status(what), 0);
        }
    }

    private static void kinds() {
        WatchServer x = Scene.client();
        CHECK.due("0 has no VALUE", x.change(0, 1), -4);
        CHECK.due("1 has one", x.change(1, 1), 1);
        CHECK.due("clients may not write it", x.write(0, 1, 1), -4);
        CHECK.due("2 has one", x.change(2, 1), 1);
        CHECK.due("clients may write it", x.write(0, 2, 1), 1);
    }

    private static void wrongKinds() {
        WatchServer x = new WatchServer();
        for (int kind : new int[] {-1, 3, Integer.MIN_VALUE, Integer.MAX_VALUE}) {
            CHECK.refused(x, "kind " + kind, -7, () -> x.node(kind));
        }
        CHECK.due("it took no number", x.node(0), 0);
    }

    private static void noRoomForNodes() {
        WatchServer x = fullOfNodes();
        for (int k = 0; k <= 2; k++) {
            int kind = k;
            CHECK.refused(x, "kind " + kind, -8, () -> x.node(kind));
        }
        CHECK.refused(x, "the kind is told first", -7, () -> x.node(3));
    }

    private static void referWithoutNode() {
        WatchServer x = Scene.client();
        for (int node : new int[] {3, -1, Integer.MIN_VALUE, Integer.MAX_VALUE}) {
            CHECK.refused(x, "from " + node, -4, () -> x.refer(node, 0, 0));
            CHECK.refused(x, "to " + node, -4, () -> x.refer(0, node, 0));
            CHECK.refused(x, "both " + node, -4, () -> x.refer(node, node, 0));
        }
        CHECK.refused(x, "NODE before TYPE", -4, () -> x.refer(0, 3, 8));
    }

    private static void wrongTypes() {
        WatchServer x = Scene.client();
        for (int type : new int[] {-1, 8, 32, Integer.MIN_VALUE, Integer.MAX_VALUE}) {
            CHECK.refused(x, "TYPE " + type, -7, () -> x.refer(0, 1, type));
        }
        CHECK.due("it took no number", x.refer(0, 1, 7), 0);
    }

    private static void noRoomForReferences() {
        WatchServer x = fullOfReferences();
        CHECK.refused(x, "one more", -8, () -> x.refer(0, 1, 2));
        CHECK.refused(x, "the TYPE is told first", -7, () -> x.refer(0, 1, 8));
        CHECK.refused(x, "and the NODE before it", -4, () -> x.refer(3, 1, 8));
    }

    private static void changes() {
        WatchServer x = Scene.client();
        for (int node = 1; node <= 2; node++) {
            CHECK.due("change", x.change(node, 4 + node), 1);
            CHECK.due("to what it is already", x.change(node, 4 + node), 1);
            x.read(0, node);
            CHECK.due("VALUE", x.value(), 4 + node);
        }
    }

    private static void changesNone() {
        WatchServer x = Scene.client();
        for (int node : new int[] {0, 3, -1, Integer.MIN_VALUE, Integer.MAX_VALUE}) {
            CHECK.refused(x, "NODE " + node, -4, () -> x.change(node, 8));
        }
        for (int node = 1; node <= 2; node++) {
            x.read(0, node);
            CHECK.due("the others' VALUES stay", x.value(), 0);
        }
    }
}

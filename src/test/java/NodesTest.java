/** Promises 1 to 4: a new object, node, refer, change. */
public final class NodesTest {
    private static final Check CHECK = new Check();

    public static void main(String[] args) {
        newObject();
        nodes();
        nodesFull();
        references();
        referencesFull();
        changes();
        CHECK.done();
    }

    private static void newObject() {
        WatchServer x = new WatchServer();
        for (int what = 0; what <= 6; what++) {
            CHECK.due("new: status(" + what + ")", x.status(what), 0);
        }
        for (int what = 11; what <= 19; what++) {
            CHECK.due("new: status(" + what + ")", x.status(what), 0);
        }
        CHECK.due("new: value", x.value(), 0);
        CHECK.due("new: acknowledged", x.acknowledged(), 0);
        CHECK.due("new: no SESSION", x.mail(0, 0), -1);
        CHECK.refused(x, "new: no NODE", -4, () -> x.refer(0, 0, 0));
    }

    private static void nodes() {
        WatchServer x = new WatchServer();
        CHECK.due("first node", x.node(2), 0);
        CHECK.due("second node", x.node(0), 1);
        CHECK.due("third node", x.node(1), 2);
        CHECK.refused(x, "kind -1", -7, () -> x.node(-1));
        CHECK.refused(x, "kind 3", -7, () -> x.node(3));
        CHECK.refused(x, "smallest kind", -7, () -> x.node(Integer.MIN_VALUE));
        CHECK.refused(x, "largest kind", -7, () -> x.node(Integer.MAX_VALUE));
        CHECK.due("NODES", x.status(1), 3);
        WatchServer other = new WatchServer();
        CHECK.due("objects share no NODES", other.node(0), 0);
    }

    private static void nodesFull() {
        WatchServer x = new WatchServer();
        for (int k = 0; k < 40; k++) {
            CHECK.due("node " + k, x.node(k % 3), k);
        }
        CHECK.refused(x, "a 41st", -8, () -> x.node(0));
        CHECK.refused(x, "kind before room", -7, () -> x.node(3));
        CHECK.due("40 NODES", x.status(1), 40);
    }

    private static void references() {
        WatchServer x = Scene.client();
        CHECK.due("first", x.refer(0, 1, 0), 0);
        CHECK.due("last TYPE", x.refer(1, 2, 7), 1);
        CHECK.due("to itself", x.refer(2, 2, 3), 2);
        CHECK.due("the same once more", x.refer(2, 2, 3), 3);
        CHECK.refused(x, "from none", -4, () -> x.refer(3, 0, 0));
        CHECK.refused(x, "from -1", -4, () -> x.refer(-1, 0, 0));
        CHECK.refused(x, "to none", -4, () -> x.refer(0, 3, 0));
        CHECK.refused(x, "to -1", -4, () -> x.refer(0, -1, 0));
        CHECK.refused(x, "TYPE 8", -7, () -> x.refer(0, 1, 8));
        CHECK.refused(x, "TYPE -1", -7, () -> x.refer(0, 1, -1));
        CHECK.refused(x, "NODE before TYPE", -4, () -> x.refer(0, 3, 8));
        CHECK.due("REFERENCES", x.status(2), 4);
    }

    private static void referencesFull() {
        WatchServer x = Scene.client();
        for (int k = 0; k < 100; k++) {
            CHECK.due("reference " + k, x.refer(k % 3, 0, k % 8), k);
        }
        CHECK.refused(x, "a 101st", -8, () -> x.refer(0, 0, 0));
        CHECK.refused(x, "TYPE before room", -7, () -> x.refer(0, 0, 8));
        CHECK.refused(x, "NODE before room", -4, () -> x.refer(0, 9, 0));
        CHECK.due("the last one is there", x.browse(0, 0, 1, 1 << 3, 12), 0);
    }

    private static void changes() {
        WatchServer x = Scene.client();
        CHECK.due("VALUE at first", x.read(0, 1) + x.value(), 0);
        CHECK.due("one that clients may not write", x.change(1, Long.MIN_VALUE), 1);
        CHECK.due("one that they may", x.change(2, Long.MAX_VALUE), 1);
        x.read(0, 1);
        CHECK.due("smallest VALUE", x.value(), Long.MIN_VALUE);
        x.read(0, 2);
        CHECK.due("largest VALUE", x.value(), Long.MAX_VALUE);
        CHECK.due("the same VALUE", x.change(2, Long.MAX_VALUE), 1);
        CHECK.refused(x, "an OBJECT", -4, () -> x.change(0, 1));
        CHECK.refused(x, "no NODE", -4, () -> x.change(3, 1));
        CHECK.refused(x, "NODE -1", -4, () -> x.change(-1, 1));
        CHECK.refused(x, "largest NODE", -4, () -> x.change(Integer.MAX_VALUE, 1));
    }
}

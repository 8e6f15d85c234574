/** Promises 9 to 12: browse, read, value, write. */
public final class BrowseReadWriteTest {
    private static final Check CHECK = new Check();

    public static void main(String[] args) {
        browsing();
        browsingRefused();
        reading();
        writing();
        CHECK.done();
    }

    private static WatchServer withReferences() {
        WatchServer x = Scene.clients();
        x.refer(0, 1, 0);
        x.refer(2, 0, 7);
        x.refer(0, 0, 3);
        x.refer(0, 2, 0);
        x.refer(1, 2, 3);
        return x;
    }

    private static void browsing() {
        WatchServer x = withReferences();
        due("begins there", x, 0, 255, 1, 0, 2);
        due("ends there", x, 1, 255, 2, 0);
        due("either, to itself once", x, 2, 255, 1, 2, 0, 2);
        due("TYPE 0", x, 0, 1, 1, 2);
        due("TYPE 3", x, 0, 8, 0);
        due("TYPE 7", x, 1, 128, 2);
        due("TYPES 0 and 7", x, 2, 129, 1, 2, 2);
        due("no TYPE", x, 2, 0);
        due("bits above 7 are no TYPE", x, 2, ~255);
        due("all bits", x, 2, -1, 1, 2, 0, 2);
        CHECK.due("another NODE ends", x.browse(1, 2, 1, 255, 1), 1);
        CHECK.due("another NODE, either", x.browse(1, 1, 2, 255, 0), 0);
        CHECK.due("another NODE, either, second", x.browse(1, 1, 2, 255, 1), 2);
    }

    private static void due(String what, WatchServer x, int way, int types, int... ends) {
        for (int i = 0; i < ends.length; i++) {
            CHECK.due(what + ", " + i, x.browse(0, 0, way, types, i), ends[i]);
        }
        CHECK.refused(x, what + ", one more", -9, () -> x.browse(0, 0, way, types, ends.length));
        CHECK.refused(x, what + ", before the first", -9, () -> x.browse(0, 0, way, types, -1));
    }

    private static void browsingRefused() {
        WatchServer x = withReferences();
        CHECK.refused(x, "nobody", -1, () -> x.browse(4, 9, 9, 255, 99));
        CHECK.refused(x, "CLOSED", -2, () -> x.browse(2, 9, 9, 255, 99));
        CHECK.refused(x, "NEW", -3, () -> x.browse(3, 9, 9, 255, 99));
        CHECK.refused(x, "NODE 3", -4, () -> x.browse(0, 3, 9, 255, 99));
        CHECK.refused(x, "NODE -1", -4, () -> x.browse(0, -1, 9, 255, 99));
        CHECK.refused(x, "way 3", -7, () -> x.browse(0, 0, 3, 255, 99));
        CHECK.refused(x, "way -1", -7, () -> x.browse(0, 0, -1, 255, 99));
        CHECK.refused(x, "largest i", -9, () -> x.browse(0, 0, 2, 255, Integer.MAX_VALUE));
        CHECK.refused(x, "smallest i", -9, () -> x.browse(0, 0, 2, 255, Integer.MIN_VALUE));
    }

    private static void reading() {
        WatchServer x = Scene.clients();
        x.change(1, 5);
        CHECK.due("value without a read", x.value(), 0);
        CHECK.due("read", x.read(0, 1), 0);
        CHECK.due("value", x.value(), 5);
        x.change(1, 6);
        CHECK.tells(x, "value as it was", 5, () -> x.value());
        CHECK.refused(x, "nobody", -1, () -> x.read(4, 9));
        CHECK.refused(x, "CLOSED", -2, () -> x.read(2, 9));
        CHECK.refused(x, "NEW", -3, () -> x.read(3, 9));
        CHECK.refused(x, "no NODE", -4, () -> x.read(0, 3));
        CHECK.refused(x, "NODE -1", -4, () -> x.read(0, -1));
        CHECK.refused(x, "an OBJECT", -4, () -> x.read(0, 0));
        CHECK.due("another SESSION reads", x.read(1, 2), 0);
        CHECK.due("the latest read of all", x.value(), 0);
    }

    private static void writing() {
        WatchServer x = Scene.clients();
        CHECK.due("write", x.write(0, 2, Long.MIN_VALUE), 1);
        x.read(1, 2);
        CHECK.due("it is read", x.value(), Long.MIN_VALUE);
        CHECK.due("write the same", x.write(1, 2, Long.MIN_VALUE), 1);
        CHECK.refused(x, "nobody", -1, () -> x.write(4, 9, 1));
        CHECK.refused(x, "CLOSED", -2, () -> x.write(2, 9, 1));
        CHECK.refused(x, "NEW", -3, () -> x.write(3, 9, 1));
        CHECK.refused(x, "NEW, though the NODE fits", -3, () -> x.write(3, 2, 1));
        CHECK.refused(x, "no NODE", -4, () -> x.write(0, 3, 1));
        CHECK.refused(x, "an OBJECT", -4, () -> x.write(0, 0, 1));
        CHECK.refused(x, "may not be written", -4, () -> x.write(0, 1, 1));
        x.read(0, 1);
        CHECK.due("what was refused is not written", x.value(), 0);
        x.read(0, 2);
        CHECK.due("nor here", x.value(), Long.MIN_VALUE);
    }
}

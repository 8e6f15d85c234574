/** Promises 18 to 20 and 29: item, mode, drop, itemOf. */
public final class ItemsTest {
    private static final Check CHECK = new Check();

    public static void main(String[] args) {
        making();
        makingRefused();
        numbersThatMayNotBe();
        full();
        modes();
        modesRefused();
        dropping();
        lifeLeft();
        views();
        CHECK.done();
    }

    private static void making() {
        WatchServer x = Scene.client();
        x.subscribe(0, 100, 1, 3, 0);
        CHECK.due("smallest numbers", x.item(0, 0, 1, 1, 1, false, 0, 0), 0);
        CHECK.due("largest numbers", x.item(0, 0, 2, 100, 8, true, 2, Long.MAX_VALUE), 1);
        CHECK.due("SAMPLING", x.item(0, 0, 2, 100, 8, true, 1, 0), 2);
        CHECK.due("MODE 0 is not SAMPLED at once", x.itemOf(0, 3), 0);
        CHECK.due("MODE 2 is", x.itemOf(1, 3), 1);
        CHECK.due("MODE 1 is", x.itemOf(2, 3), 1);
        CHECK.due("ITEMS of it", x.subscription(0, 6), 3);
        CHECK.due("ITEMS", x.status(5), 3);
        x.change(1, 3);
        x.tick(1);
        CHECK.due("MODE 0 is not SAMPLED by a TICK", x.itemOf(0, 3), 0);
    }

    private static void makingRefused() {
        WatchServer x = Scene.clients();
        x.subscribe(0, 1, 1, 3, 0);
        CHECK.refused(x, "nobody", -1, () -> x.item(4, 9, 9, 0, 1, true, 2, 0));
        CHECK.refused(x, "CLOSED", -2, () -> x.item(2, 9, 9, 0, 1, true, 2, 0));
        CHECK.refused(x, "NEW", -3, () -> x.item(3, 9, 9, 0, 1, true, 2, 0));
        CHECK.refused(x, "none such", -5, () -> x.item(0, 1, 9, 0, 1, true, 2, 0));
        CHECK.refused(x, "another's", -5, () -> x.item(1, 0, 9, 0, 1, true, 2, 0));
        CHECK.refused(x, "no NODE", -4, () -> x.item(0, 0, 3, 0, 1, true, 2, 0));
        CHECK.refused(x, "NODE -1", -4, () -> x.item(0, 0, -1, 0, 1, true, 2, 0));
        CHECK.refused(x, "an OBJECT", -4, () -> x.item(0, 0, 0, 0, 1, true, 2, 0));
        x.unsubscribe(0, 0);
        CHECK.refused(x, "no more", -5, () -> x.item(0, 0, 1, 1, 1, true, 2, 0));
    }

    private static void numbersThatMayNotBe() {
        WatchServer x = Scene.client();
        x.subscribe(0, 1, 1, 3, 0);
        long[][] wrong = {{0, 1, 2, 0}, {101, 1, 2, 0}, {1, 0, 2, 0}, {1, 9, 2, 0}, {1, 1, -1, 0}, {1, 1, 3, 0},
            {1, 1, 2, -1}, {1, 1, 2, Long.MIN_VALUE}, {Integer.MIN_VALUE, 1, 2, 0}, {1, Integer.MAX_VALUE, 2, 0}};
        for (long[] n : wrong) {
            CHECK.refused(x, "item " + n[0] + " " + n[1] + " " + n[2] + " " + n[3], -7,
                () -> x.item(0, 0, 1, (int) n[0], (int) n[1], true, (int) n[2], n[3]));
        }
    }

    private static void full() {
        WatchServer x = Scene.client();
        x.subscribe(0, 100, 1, 3, 0);
        for (int i = 0; i < 60; i++) {
            CHECK.due("item " + i, x.item(0, 0, 1, 1, 8, true, 2, 0), i);
        }
        x.drop(0, 5);
        CHECK.refused(x, "60 ever", -8, () -> x.item(0, 0, 1, 1, 8, true, 2, 0));
        CHECK.refused(x, "number before room", -7, () -> x.item(0, 0, 1, 0, 8, true, 2, 0));
        CHECK.refused(x, "NODE before room", -4, () -> x.item(0, 0, 0, 1, 8, true, 2, 0));
        CHECK.due("59 of them", x.status(5), 59);
        CHECK.due("the last one is there", x.itemOf(59, 3), 1);
    }

    private static void modes() {
        WatchServer x = Scene.client();
        x.subscribe(0, 100, 1, 3, 0);
        x.item(0, 0, 1, 2, 8, true, 0, 0);
        x.tick(1);
        CHECK.due("0 to 1", x.mode(0, 0, 1), 0);
        CHECK.due("it is SAMPLED at once", x.itemOf(0, 3), 1);
        CHECK.due("not READY in MODE 1", x.subscription(0, 8), 0);
        x.change(1, 7);
        CHECK.due("1 to 2", x.mode(0, 0, 2), 1);
        CHECK.due("it is not SAMPLED at once", x.itemOf(0, 3), 1);
        CHECK.due("READY in MODE 2", x.subscription(0, 8), 1);
        x.tick(1);
        CHECK.due("BORN as before: SAMPLED at TIME 2", x.itemOf(0, 3), 2);
        CHECK.due("2 to 1", x.mode(0, 0, 1), 2);
        CHECK.due("QUEUE stays", x.itemOf(0, 3), 2);
        CHECK.due("1 to 1", x.mode(0, 0, 1), 1);
        CHECK.due("1 to 0", x.mode(0, 0, 0), 1);
        CHECK.due("QUEUE is empty", x.itemOf(0, 3), 0);
        CHECK.due("0 to 0", x.mode(0, 0, 0), 0);
        CHECK.due("QUEUE is empty still", x.itemOf(0, 3), 0);
        CHECK.due("0 to 2", x.mode(0, 0, 2), 0);
        CHECK.due("SAMPLED as a first one, though the same VALUE", x.itemOf(0, 3), 1);
        CHECK.due("2 to 2", x.mode(0, 0, 2), 2);
        CHECK.due("no entry by that", x.itemOf(0, 3), 1);
        x.tick(2);
        CHECK.due("nor by a TICK with the same VALUE", x.itemOf(0, 3), 1);
        x.mode(0, 0, 0);
        CHECK.due("MODE is 0", x.itemOf(0, 2), 0);
    }

    private static void modesRefused() {
        WatchServer x = Scene.clients();
        x.subscribe(0, 1, 1, 3, 0);
        x.item(0, 0, 1, 1, 1, true, 2, 0);
        CHECK.refused(x, "nobody", -1, () -> x.mode(4, 9, 9));
        CHECK.refused(x, "CLOSED", -2, () -> x.mode(2, 9, 9));
        CHECK.refused(x, "NEW", -3, () -> x.mode(3, 9, 9));
        CHECK.refused(x, "none such", -6, () -> x.mode(0, 1, 9));
        CHECK.refused(x, "-1", -6, () -> x.mode(0, -1, 9));
        CHECK.refused(x, "another's", -6, () -> x.mode(1, 0, 9));
        CHECK.refused(x, "MODE 3", -7, () -> x.mode(0, 0, 3));
        CHECK.refused(x, "MODE -1", -7, () -> x.mode(0, 0, -1));
        x.unsubscribe(0, 0);
        CHECK.refused(x, "no more", -6, () -> x.mode(0, 0, 1));
    }

    private static void dropping() {
        WatchServer x = Scene.clients();
        x.subscribe(0, 100, 1, 3, 0);
        x.item(0, 0, 1, 1, 8, true, 1, 0);
        x.item(0, 0, 1, 1, 8, true, 0, 0);
        x.item(0, 0, 2, 1, 8, true, 2, 0);
        Scene.changeAndTick(x, 1);
        Scene.changeAndTick(x, 2);
        CHECK.refused(x, "nobody", -1, () -> x.drop(4, 9));
        CHECK.refused(x, "CLOSED", -2, () -> x.drop(2, 9));
        CHECK.refused(x, "NEW", -3, () -> x.drop(3, 9));
        x.activate(1);
        x.activate(0);
        CHECK.refused(x, "none such", -6, () -> x.drop(0, 3));
        CHECK.refused(x, "-1", -6, () -> x.drop(0, -1));
        CHECK.refused(x, "another's", -6, () -> x.drop(1, 0));
        CHECK.due("with entries", x.drop(0, 0), 3);
        CHECK.due("without", x.drop(0, 1), 0);
        CHECK.due("it is no more", x.itemOf(0, 0), -9);
        CHECK.refused(x, "twice", -6, () -> x.drop(0, 0));
        CHECK.refused(x, "no MODE then", -6, () -> x.mode(0, 0, 1));
        CHECK.due("ITEMS of it", x.subscription(0, 6), 1);
        CHECK.due("ITEMS", x.status(5), 1);
        CHECK.due("READY by the third", x.subscription(0, 8), 1);
        CHECK.due("the third", x.drop(0, 2), 1);
        CHECK.due("not READY without ITEMS", x.subscription(0, 8), 0);
        CHECK.due("numbers go on", x.item(0, 0, 1, 1, 8, true, 1, 0), 3);
    }

    private static void lifeLeft() {
        WatchServer x = Scene.client();
        x.subscribe(0, 1, 1, 10, 0);
        x.tick(2);
        CHECK.due("LIFE LEFT", x.subscription(0, 4), 8);
        x.item(0, 0, 1, 1, 8, true, 1, 0);
        CHECK.due("item: LIFE LEFT is LIFE", x.subscription(0, 4), 10);
        x.tick(1);
        x.mode(0, 0, 1);
        CHECK.due("mode: LIFE LEFT is LIFE", x.subscription(0, 4), 10);
        x.tick(1);
        CHECK.due("refused", x.item(0, 0, 1, 0, 8, true, 1, 0) + x.mode(0, 0, 3), -14);
        CHECK.due("refused: LIFE LEFT as it was", x.subscription(0, 4), 9);
        x.drop(0, 0);
        CHECK.due("drop: LIFE LEFT is LIFE", x.subscription(0, 4), 10);
    }

    private static void views() {
        WatchServer x = Scene.client();
        x.subscribe(0, 100, 1, 3, 0);
        x.subscribe(0, 100, 1, 3, 0);
        x.item(0, 1, 2, 1, 2, true, 1, 0);
        for (int v = 1; v <= 2; v++) {
            x.change(2, v);
            x.tick(1);
        }
        int[] due = {1, 2, 1, 2, 1};
        for (int k = 0; k <= 4; k++) {
            int what = k;
            CHECK.tells(x, "itemOf " + what, due[what], () -> x.itemOf(0, what));
        }
        CHECK.tells(x, "what 5", -9, () -> x.itemOf(0, 5));
        CHECK.tells(x, "what -1", -9, () -> x.itemOf(0, -1));
        CHECK.tells(x, "none such", -9, () -> x.itemOf(1, 0));
        CHECK.tells(x, "-1", -9, () -> x.itemOf(-1, 0));
        x.mode(0, 0, 0);
        CHECK.tells(x, "no first entry, no BIT", 0, () -> x.itemOf(0, 4));
    }
}

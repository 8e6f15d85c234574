/** Objects that tests begin with. */
final class Scene {
    private Scene() {
    }

    /** NODES 0 OBJECT, 1 VARIABLE, 2 VARIABLE that may be written; SESSION 0 ACTIVE with TIMEOUT 1000. */
    static WatchServer client() {
        WatchServer x = new WatchServer();
        x.node(0);
        x.node(1);
        x.node(2);
        x.session(1000);
        x.activate(0);
        return x;
    }

    /** client(), a SESSION 1 that is ACTIVE, 2 that is CLOSED, 3 that is NEW. */
    static WatchServer clients() {
        WatchServer x = client();
        x.session(1000);
        x.activate(1);
        x.session(1000);
        x.activate(2);
        x.close(2);
        x.session(1000);
        return x;
    }

    /** client() with SUBSCRIPTION 0 of the numbers told, and ITEM 0 of it on NODE 1 in MODE 2 with SIZE 8. */
    static WatchServer watcher(int period, int keep, int life, int most) {
        WatchServer x = client();
        x.subscribe(0, period, keep, life, most);
        x.item(0, 0, 1, 1, 8, true, 2, 0);
        return x;
    }

    /** A new VALUE of NODE 1, and a TICK. */
    static int changeAndTick(WatchServer x, long v) {
        x.change(1, v);
        return x.tick(1);
    }

    /** In watcher() with PERIOD 1: as many MESSAGES more; each takes a publish(), so 900 take more than 512 calls. */
    static void publish(WatchServer x, int messages) {
        for (int k = 1; k <= messages; k++) {
            changeAndTick(x, k);
            x.publish(0, -1, 0);
        }
    }

    /** In watcher(): two REQUESTS wait, which a TICK may answer. */
    static void waitTwice(WatchServer x) {
        x.publish(0, -1, 0);
        x.publish(0, -1, 0);
    }
}

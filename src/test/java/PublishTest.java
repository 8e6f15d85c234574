/** Promises 21 and 22: publish, acknowledged. */
public final class PublishTest {
    private static final Check CHECK = new Check();

    public static void main(String[] args) {
        waiting();
        refused();
        nothingIsAcknowledgedWhenRefused();
        acknowledging();
        acknowledgingFirst();
        lateForTheLongest();
        lateInOneTime();
        lateBeforeMore();
        moreByNumbers();
        moreAndReady();
        oneMessageAtOnce();
        lateWithRequestsWaiting();
        CHECK.done();
    }

    private static void waiting() {
        WatchServer x = Scene.client();
        x.subscribe(0, 5, 1, 3, 0);
        for (int k = 1; k <= 4; k++) {
            CHECK.due("it waits", x.publish(0, -1, 0), 0);
            CHECK.due("REQUESTS", x.sessionOf(0, 2), k);
        }
        CHECK.refused(x, "4 wait", -8, () -> x.publish(0, -1, 0));
        CHECK.due("one is answered", x.tick(5), 1);
        CHECK.due("and gone", x.sessionOf(0, 2), 3);
        CHECK.due("one more waits", x.publish(0, -1, 0), 0);
    }

    private static void refused() {
        WatchServer x = Scene.clients();
        CHECK.refused(x, "nobody", -1, () -> x.publish(4, -1, 0));
        CHECK.refused(x, "SESSION -1", -1, () -> x.publish(-1, -1, 0));
        CHECK.refused(x, "CLOSED", -2, () -> x.publish(2, -1, 0));
        CHECK.refused(x, "NEW", -3, () -> x.publish(3, -1, 0));
        CHECK.refused(x, "no SUBSCRIPTION", -9, () -> x.publish(0, -1, 0));
        x.subscribe(0, 100, 1, 3, 0);
        CHECK.refused(x, "none of its own", -9, () -> x.publish(1, 0, 1));
        for (int k = 0; k < 4; k++) {
            x.publish(0, -1, 0);
        }
        x.unsubscribe(0, 0);
        CHECK.due("REQUESTS stay", x.sessionOf(0, 2), 4);
        CHECK.refused(x, "no SUBSCRIPTION before room", -9, () -> x.publish(0, -1, 0));
    }

    private static void nothingIsAcknowledgedWhenRefused() {
        WatchServer x = Scene.watcher(1, 20, 100, 0);
        x.publish(0, -1, 0);
        x.tick(1);
        for (int k = 0; k < 4; k++) {
            x.publish(0, 7, 0);
        }
        CHECK.due("of the latest that was not refused", x.acknowledged(), -5);
        CHECK.refused(x, "4 wait", -8, () -> x.publish(0, 0, 1));
        CHECK.due("it is KEPT still", x.message(0, 5), 1);
        CHECK.due("as before", x.acknowledged(), -5);
    }

    private static void acknowledging() {
        WatchServer x = Scene.clients();
        x.subscribe(0, 1, 20, 100, 0);
        x.subscribe(1, 100, 20, 100, 0);
        x.item(0, 0, 1, 1, 8, true, 2, 0);
        CHECK.due("without a publish", x.acknowledged(), 0);
        x.publish(0, 0, 1);
        CHECK.due("none such yet", x.acknowledged(), -9);
        x.publish(0, -1, 1);
        CHECK.due("nothing was asked", x.acknowledged(), 0);
        x.tick(1);
        Scene.changeAndTick(x, 2);
        CHECK.due("two are KEPT", x.subscription(0, 7), 2);
        x.publish(1, 0, 1);
        CHECK.due("another SESSION's", x.acknowledged(), -5);
        CHECK.due("KEPT still", x.message(0, 5), 1);
        x.publish(0, 2, 1);
        CHECK.due("no such SUBSCRIPTION", x.acknowledged(), -5);
        x.publish(0, -2, 1);
        CHECK.due("nor -2", x.acknowledged(), -5);
        x.publish(0, 0, 2);
        CHECK.tells(x, "it was KEPT", 1, () -> x.acknowledged());
        CHECK.due("it is not", x.message(1, 5), 0);
        CHECK.due("the first one is", x.message(0, 5), 1);
        CHECK.due("one is KEPT", x.subscription(0, 7), 1);
        x.tick(100);
        x.publish(0, 0, 2);
        CHECK.due("twice", x.acknowledged(), -9);
        x.publish(0, 0, 0);
        CHECK.due("number 0", x.acknowledged(), -9);
        x.publish(0, 0, 3);
        CHECK.due("a sign of life's number", x.acknowledged(), -9);
        CHECK.refused(x, "a refused one", -1, () -> x.publish(9, 0, 1));
        CHECK.due("is not the latest", x.acknowledged(), -9);
    }

    private static void acknowledgingFirst() {
        WatchServer x = Scene.watcher(1, 20, 100, 1);
        Scene.changeAndTick(x, 1);
        x.publish(0, 0, 1);
        CHECK.due("the MESSAGE that it makes is not yet KEPT", x.acknowledged(), -9);
        CHECK.due("number 1", x.message(0, 1), 1);
        CHECK.due("is KEPT", x.message(0, 5), 1);
        for (int v = 2; v <= 5; v++) {
            Scene.changeAndTick(x, v);
            x.publish(0, -1, 0);
        }
        CHECK.due("5 are KEPT", x.subscription(0, 7), 5);
        x.publish(0, 0, 1);
        CHECK.due("acknowledged before the sixth comes", x.acknowledged(), 1);
        CHECK.due("5 are KEPT again", x.subscription(0, 7), 5);
        CHECK.due("the second one too", x.message(1, 5), 1);
    }

    private static void lateForTheLongest() {
        WatchServer x = Scene.client();
        x.subscribe(0, 4, 20, 100, 0);
        x.subscribe(0, 3, 20, 100, 0);
        x.subscribe(0, 2, 20, 100, 0);
        x.tick(12);
        int[] order = {2, 1, 0};
        for (int m = 0; m < 3; m++) {
            CHECK.due("LATE", x.publish(0, -1, 0), 1);
            CHECK.due("for the longest", x.message(m, 0), order[m]);
            CHECK.due("its TIME is now", x.message(m, 4), 12);
        }
        CHECK.due("then it waits", x.publish(0, -1, 0), 0);
    }

    private static void lateInOneTime() {
        WatchServer x = Scene.clients();
        x.subscribe(1, 2, 20, 100, 0);
        x.subscribe(0, 1, 20, 100, 0);
        x.subscribe(0, 2, 1, 100, 0);
        x.subscribe(0, 2, 1, 100, 0);
        x.tick(2);
        x.transfer(0, 0);
        int[] order = {1, 0, 2, 3};
        for (int m = 0; m < 4; m++) {
            x.publish(0, -1, 0);
            CHECK.due("by TIMES, then by numbers", x.message(m, 0), order[m]);
        }
        x.tick(2);
        CHECK.due("LATE anew", x.subscription(2, 5), 1);
        x.publish(0, -1, 0);
        CHECK.due("since then", x.message(4, 0), 2);
    }

    private static void lateBeforeMore() {
        WatchServer x = Scene.watcher(1, 20, 100, 1);
        x.subscribe(0, 4, 20, 100, 0);
        for (int v = 1; v <= 3; v++) {
            Scene.changeAndTick(x, v);
        }
        x.publish(0, -1, 0);
        CHECK.due("MORE", x.message(0, 3), 1);
        x.modify(0, 0, 100, 20, 100, 1);
        x.tick(1);
        CHECK.due("the second is LATE, the first has MORE", x.publish(0, -1, 0), 1);
        CHECK.due("the LATE one", x.message(1, 0), 1);
        CHECK.due("then what has MORE", x.publish(0, -1, 0), 1);
        CHECK.due("the first", x.message(2, 0), 0);
    }

    private static void moreByNumbers() {
        WatchServer x = Scene.clients();
        for (int sub = 0; sub < 3; sub++) {
            x.subscribe(0, 4, 20, 100, 1);
            x.item(0, sub, 1, 1, 8, true, 2, 0);
        }
        for (int v = 1; v <= 4; v++) {
            Scene.changeAndTick(x, v);
        }
        x.transfer(1, 0);
        for (int m = 0; m < 2; m++) {
            x.publish(0, -1, 0);
            CHECK.due("LATE first", x.message(m, 0), m + 1);
        }
        x.publish(0, -1, 0);
        CHECK.due("the first with MORE", x.message(2, 0), 1);
        x.publish(0, -1, 0);
        CHECK.due("it again", x.message(3, 0), 1);
        x.turn(0, 1, false);
        x.publish(0, -1, 0);
        CHECK.due("it is not READY: the next one", x.message(4, 0), 2);
        x.turn(0, 1, true);
        x.publish(0, -1, 0);
        CHECK.due("READY again", x.message(5, 0), 1);
    }

    private static void moreAndReady() {
        WatchServer x = Scene.watcher(2, 20, 100, 1);
        x.publish(0, -1, 0);
        x.change(1, 1);
        x.tick(2);
        CHECK.due("MORE", x.message(0, 3), 1);
        x.mode(0, 0, 1);
        CHECK.due("MORE, but not READY: it waits", x.publish(0, -1, 0), 0);
        x.mode(0, 0, 2);
        CHECK.due("READY again: at once", x.publish(0, -1, 0), 1);
        CHECK.due("no MORE", x.message(1, 3), 0);
        Scene.changeAndTick(x, 2);
        CHECK.due("READY", x.subscription(0, 8), 1);
        CHECK.due("READY, but no MORE: it waits", x.publish(0, -1, 0), 0);
        CHECK.due("two wait", x.sessionOf(0, 2), 2);
        CHECK.due("till the PERIOD is over", x.tick(1), 1);
    }

    private static void oneMessageAtOnce() {
        WatchServer x = Scene.watcher(1, 20, 100, 1);
        Scene.changeAndTick(x, 1);
        Scene.changeAndTick(x, 2);
        CHECK.due("LATE with three entries", x.publish(0, -1, 0), 1);
        CHECK.due("one MESSAGE", x.status(6), 1);
        CHECK.due("the REQUEST is gone", x.sessionOf(0, 2), 0);
        CHECK.due("behind the MAIL", x.mail(0, 0), 0);
        CHECK.due("SENT, so KEEP LEFT is KEEP", x.subscription(0, 3), 20);
    }

    private static void lateWithRequestsWaiting() {
        WatchServer x = Scene.clients();
        x.subscribe(0, 100, 20, 100, 0);
        x.subscribe(1, 1, 20, 100, 0);
        x.publish(0, -1, 0);
        x.publish(0, -1, 0);
        x.tick(1);
        x.transfer(0, 1);
        CHECK.due("two wait while it is LATE", x.sessionOf(0, 2), 2);
        CHECK.due("a third one is answered at once", x.publish(0, -1, 0), 1);
        CHECK.due("two wait still", x.sessionOf(0, 2), 2);
        CHECK.due("it is the LATE one's", x.message(0, 0), 1);
    }
}

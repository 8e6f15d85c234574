/** Promise 5: tick; and the order of a TICK, KEEP, LIFE, LATE. */
public final class TickTest {
    private static final Check CHECK = new Check();

    public static void main(String[] args) {
        numbers();
        timeIsFull();
        howManyMessages();
        periods();
        signsOfLife();
        keepLeftBelowZero();
        againWhileThereIsMore();
        requestsGoByNumbers();
        lateAndLife();
        lifeEnds();
        lifeIsRenewedByMessages();
        samplesBeforeItPublishes();
        CHECK.done();
    }

    private static void numbers() {
        WatchServer x = new WatchServer();
        CHECK.refused(x, "n 0", -7, () -> x.tick(0));
        CHECK.refused(x, "n -1", -7, () -> x.tick(-1));
        CHECK.refused(x, "n 1001", -7, () -> x.tick(1001));
        CHECK.refused(x, "largest n", -7, () -> x.tick(Integer.MAX_VALUE));
        CHECK.due("one", x.tick(1), 0);
        CHECK.due("TIME", x.status(0), 1);
        CHECK.due("1000", x.tick(1000), 0);
        CHECK.due("TIME then", x.status(0), 1001);
    }

    private static void timeIsFull() {
        WatchServer x = new WatchServer();
        for (int k = 0; k < 99; k++) {
            x.tick(1000);
        }
        x.tick(999);
        CHECK.refused(x, "it would be above 100000", -8, () -> x.tick(2));
        CHECK.refused(x, "n before TIME", -7, () -> x.tick(1001));
        x.session(5);
        x.activate(0);
        CHECK.due("to 100000", x.tick(1), 0);
        CHECK.due("TIME", x.status(0), 100000);
        CHECK.refused(x, "none more", -8, () -> x.tick(1));
        CHECK.due("the rest goes on", x.activate(0), 1);
        CHECK.due("END above that", x.sessionOf(0, 1), 5);
    }

    private static void howManyMessages() {
        WatchServer x = Scene.client();
        for (int sub = 0; sub < 3; sub++) {
            x.subscribe(0, 2 + sub, 20, 100, 0);
        }
        for (int k = 0; k < 4; k++) {
            x.publish(0, -1, 0);
        }
        CHECK.due("of three SUBSCRIPTIONS in four TICKS", x.tick(4), 3);
        CHECK.due("all MESSAGES", x.status(6), 3);
        CHECK.due("one waits", x.sessionOf(0, 2), 1);
    }

    private static void periods() {
        WatchServer x = Scene.client();
        x.tick(1);
        x.subscribe(0, 3, 1, 100, 0);
        x.publish(0, -1, 0);
        x.publish(0, -1, 0);
        CHECK.due("not yet", x.tick(2), 0);
        CHECK.due("TIME less BORN is 3", x.tick(1), 1);
        CHECK.due("not yet again", x.tick(2), 0);
        CHECK.due("it is 6", x.tick(1), 1);
        CHECK.due("the first one's TIME", x.message(0, 4), 4);
        CHECK.due("the second one's TIME", x.message(1, 4), 7);
    }

    private static void signsOfLife() {
        WatchServer x = Scene.client();
        x.subscribe(0, 1, 3, 100, 0);
        x.publish(0, -1, 0);
        x.publish(0, -1, 0);
        CHECK.due("the first one at once", x.tick(1), 1);
        CHECK.due("KEEP LEFT is KEEP", x.subscription(0, 3), 3);
        CHECK.due("then none", x.tick(2), 0);
        CHECK.due("KEEP LEFT", x.subscription(0, 3), 1);
        CHECK.due("LIFE LEFT is not less by that", x.subscription(0, 4), 100);
        CHECK.due("after KEEP PERIODS", x.tick(1), 1);
        CHECK.due("KEEP LEFT is KEEP again", x.subscription(0, 3), 3);
        for (int m = 0; m < 2; m++) {
            CHECK.due("its number is NEXT", x.message(m, 1), 1);
            CHECK.due("no entries", x.message(m, 2), 0);
            CHECK.due("no MORE", x.message(m, 3), 0);
            CHECK.due("not KEPT", x.message(m, 5), 0);
        }
        CHECK.due("NEXT stays", x.subscription(0, 2), 1);
        CHECK.due("none KEPT", x.subscription(0, 7), 0);
    }

    private static void keepLeftBelowZero() {
        WatchServer x = Scene.client();
        x.subscribe(0, 1, 1, 10, 0);
        x.tick(2);
        CHECK.due("not less before it has SENT", x.subscription(0, 3), 1);
        CHECK.due("but SHORT", x.subscription(0, 4), 8);
        x.publish(0, -1, 0);
        x.tick(3);
        CHECK.due("less, without end", x.subscription(0, 3), -2);
        CHECK.due("SHORT each time", x.subscription(0, 4), 7);
        x.item(0, 0, 1, 1, 1, true, 2, 0);
        x.tick(2);
        CHECK.due("not less while READY", x.subscription(0, 3), -2);
        CHECK.due("SHORT while READY", x.subscription(0, 4), 8);
    }

    private static void againWhileThereIsMore() {
        WatchServer x = Scene.watcher(8, 20, 100, 3);
        for (int v = 1; v <= 7; v++) {
            Scene.changeAndTick(x, v);
        }
        x.publish(0, -1, 0);
        x.publish(0, -1, 0);
        CHECK.due("as long as there is a REQUEST", x.tick(1), 2);
        CHECK.due("MORE", x.message(0, 3), 1);
        CHECK.due("MORE still", x.message(1, 3), 1);
        CHECK.due("with a MESSAGE it is not LATE", x.subscription(0, 5), 0);
        CHECK.due("nor SHORT", x.subscription(0, 4), 100);
        for (int v = 11; v <= 17; v++) {
            Scene.changeAndTick(x, v);
        }
        CHECK.due("for what is left, at once", x.publish(0, -1, 0), 1);
        CHECK.due("at once again", x.publish(0, -1, 0), 1);
        CHECK.due("at once, the last", x.publish(0, -1, 0), 1);
        CHECK.due("no MORE", x.message(4, 3), 0);
        x.publish(0, -1, 0);
        x.publish(0, -1, 0);
        CHECK.due("then one alone: as long as there is MORE", Scene.changeAndTick(x, 18), 1);
        CHECK.due("one waits", x.sessionOf(0, 2), 1);
    }

    private static void requestsGoByNumbers() {
        WatchServer x = Scene.client();
        x.subscribe(0, 1, 20, 100, 0);
        x.subscribe(0, 1, 20, 100, 0);
        x.publish(0, -1, 0);
        CHECK.due("one REQUEST", x.tick(1), 1);
        CHECK.due("for the first one", x.message(0, 0), 0);
        CHECK.due("the first is not LATE", x.subscription(0, 5), 0);
        CHECK.due("the second is", x.subscription(1, 5), 1);
    }

    private static void lateAndLife() {
        WatchServer x = Scene.watcher(2, 20, 5, 0);
        x.tick(1);
        CHECK.due("not LATE before its PERIOD", x.subscription(0, 5), 0);
        x.tick(1);
        CHECK.due("LATE", x.subscription(0, 5), 1);
        CHECK.due("LIFE LEFT", x.subscription(0, 4), 4);
        x.tick(4);
        CHECK.due("LIFE LEFT each PERIOD", x.subscription(0, 4), 2);
        CHECK.due("at once", x.publish(0, -1, 0), 1);
        CHECK.due("LATE no more", x.subscription(0, 5), 0);
        CHECK.due("LIFE LEFT is LIFE", x.subscription(0, 4), 5);
    }

    private static void lifeEnds() {
        WatchServer x = Scene.watcher(1, 20, 3, 0);
        x.subscribe(0, 1, 20, 100, 0);
        x.publish(0, -1, 0);
        CHECK.due("a MESSAGE", x.tick(1), 1);
        x.change(1, 4);
        x.tick(2);
        CHECK.due("LIFE LEFT 1", x.subscription(0, 4), 1);
        CHECK.due("it is still", x.status(4), 2);
        CHECK.due("KEPT", x.message(0, 5), 1);
        x.tick(1);
        CHECK.due("it is no more", x.subscription(0, 4), -9);
        CHECK.due("nor its ITEM", x.itemOf(0, 0), -9);
        CHECK.due("its MESSAGE is KEPT no more", x.message(0, 5), 0);
        CHECK.due("but is there", x.message(0, 2), 1);
        CHECK.due("the other SUBSCRIPTION is", x.status(4), 1);
        CHECK.due("no ITEMS", x.status(5), 0);
        CHECK.due("the other one is asked for", x.publish(0, -1, 0), 1);
        CHECK.due("it is the other one's", x.message(1, 0), 1);
    }

    private static void lifeIsRenewedByMessages() {
        WatchServer x = Scene.watcher(1, 20, 3, 0);
        x.tick(2);
        CHECK.due("LIFE LEFT 1", x.subscription(0, 4), 1);
        x.publish(0, -1, 0);
        x.publish(0, -1, 0);
        CHECK.due("a TICK with a REQUEST", Scene.changeAndTick(x, 3), 1);
        CHECK.due("LIFE LEFT 3", x.subscription(0, 4), 3);
        x.tick(19);
        CHECK.due("nothing is asked of it before KEEP is over", x.subscription(0, 4), 3);
        x.tick(1);
        CHECK.due("then it is", x.subscription(0, 4), 2);
        x.publish(0, -1, 0);
        CHECK.due("LATE: a sign of life", x.message(2, 2), 0);
        CHECK.due("LIFE LEFT 3 by that", x.subscription(0, 4), 3);
    }

    private static void samplesBeforeItPublishes() {
        WatchServer x = Scene.watcher(1, 20, 3, 0);
        x.publish(0, -1, 0);
        x.change(1, 8);
        CHECK.due("one MESSAGE", x.tick(1), 1);
        CHECK.due("with what was SAMPLED in this TICK", x.message(0, 2), 2);
        CHECK.due("its value", x.entry(0, 1, 0), 8);
        CHECK.due("its TIME", x.entry(0, 1, 2), 1);
    }
}

/** Promises 13 to 17 and 28: subscribe, modify, turn, transfer, unsubscribe, subscription. */
public final class SubscriptionsTest {
    private static final Check CHECK = new Check();

    public static void main(String[] args) {
        subscribing();
        numbersThatMayNotBe();
        full();
        modifying();
        modifyingRefused();
        turning();
        transferring();
        transferringMovesWhatItHas();
        unsubscribing();
        views();
        CHECK.done();
    }

    private static void subscribing() {
        WatchServer x = Scene.clients();
        CHECK.due("smallest numbers", x.subscribe(0, 1, 1, 3, 0), 0);
        CHECK.due("largest numbers", x.subscribe(1, 100, 20, 100, 10), 1);
        int[] first = {0, 1, 1, 1, 3, 0, 0, 0, 0};
        int[] second = {1, 1, 1, 20, 100, 0, 0, 0, 0};
        for (int what = 0; what <= 8; what++) {
            CHECK.due("first, " + what, x.subscription(0, what), first[what]);
            CHECK.due("second, " + what, x.subscription(1, what), second[what]);
        }
        CHECK.due("SUBSCRIPTIONS", x.status(4), 2);
        CHECK.refused(x, "nobody", -1, () -> x.subscribe(4, 0, 1, 3, 0));
        CHECK.refused(x, "CLOSED", -2, () -> x.subscribe(2, 0, 1, 3, 0));
        CHECK.refused(x, "NEW", -3, () -> x.subscribe(3, 0, 1, 3, 0));
        CHECK.refused(x, "NEW, though the numbers may be", -3, () -> x.subscribe(3, 1, 1, 3, 0));
    }

    private static void numbersThatMayNotBe() {
        WatchServer x = Scene.client();
        x.subscribe(0, 5, 5, 5, 5);
        int[][] wrong = {{0, 1, 3, 0}, {101, 1, 3, 0}, {1, 0, 3, 0}, {1, 21, 3, 0}, {1, 1, 2, 0}, {1, 1, 101, 0},
            {1, 1, 3, -1}, {1, 1, 3, 11}, {Integer.MIN_VALUE, 1, 3, 0}, {1, 1, Integer.MAX_VALUE, 0}};
        for (int[] n : wrong) {
            String what = n[0] + " " + n[1] + " " + n[2] + " " + n[3];
            CHECK.refused(x, "subscribe " + what, -7, () -> x.subscribe(0, n[0], n[1], n[2], n[3]));
            CHECK.refused(x, "modify " + what, -7, () -> x.modify(0, 0, n[0], n[1], n[2], n[3]));
        }
    }

    private static void full() {
        WatchServer x = Scene.client();
        for (int sub = 0; sub < 20; sub++) {
            CHECK.due("subscribe " + sub, x.subscribe(0, 1, 1, 3, 0), sub);
        }
        CHECK.due("unsubscribe", x.unsubscribe(0, 3), 1);
        CHECK.refused(x, "20 ever", -8, () -> x.subscribe(0, 1, 1, 3, 0));
        CHECK.refused(x, "number before room", -7, () -> x.subscribe(0, 0, 1, 3, 0));
        CHECK.due("the last one is there", x.subscription(19, 2), 1);
        CHECK.due("19 of them", x.sessionOf(0, 3), 19);
    }

    private static void modifying() {
        WatchServer x = Scene.watcher(2, 3, 10, 1);
        x.tick(3);
        CHECK.due("LATE", x.subscription(0, 5), 1);
        CHECK.due("LIFE LEFT", x.subscription(0, 4), 9);
        CHECK.due("modify", x.modify(0, 0, 3, 7, 20, 0), 1);
        CHECK.due("KEEP LEFT as KEEP", x.subscription(0, 3), 7);
        CHECK.due("LIFE LEFT as LIFE", x.subscription(0, 4), 20);
        CHECK.due("still LATE", x.subscription(0, 5), 1);
        x.tick(2);
        CHECK.due("not yet: BORN was now", x.subscription(0, 4), 20);
        x.tick(1);
        CHECK.due("after the new PERIOD", x.subscription(0, 4), 19);
        Scene.changeAndTick(x, 5);
        CHECK.due("LATE: at once", x.publish(0, -1, 0), 1);
        CHECK.due("with the new MOST", x.message(0, 2), 2);
        CHECK.due("KEEP LEFT is the new KEEP", x.subscription(0, 3), 7);
        CHECK.due("LIFE LEFT is the new LIFE", x.subscription(0, 4), 20);
        CHECK.due("modify once more", x.modify(0, 0, 1, 4, 6, 0), 1);
        CHECK.due("NEXT stays", x.subscription(0, 2), 2);
        CHECK.due("KEPT stays", x.subscription(0, 7), 1);
        x.tick(1);
        CHECK.due("it has SENT, as before", x.subscription(0, 3), 3);
    }

    private static void modifyingRefused() {
        WatchServer x = Scene.clients();
        x.subscribe(0, 5, 5, 5, 5);
        CHECK.refused(x, "nobody", -1, () -> x.modify(4, 9, 0, 1, 3, 0));
        CHECK.refused(x, "CLOSED", -2, () -> x.modify(2, 9, 0, 1, 3, 0));
        CHECK.refused(x, "NEW", -3, () -> x.modify(3, 9, 0, 1, 3, 0));
        CHECK.refused(x, "none such", -5, () -> x.modify(0, 1, 0, 1, 3, 0));
        CHECK.refused(x, "-1", -5, () -> x.modify(0, -1, 0, 1, 3, 0));
        CHECK.refused(x, "another's", -5, () -> x.modify(1, 0, 0, 1, 3, 0));
        x.unsubscribe(0, 0);
        CHECK.refused(x, "no more", -5, () -> x.modify(0, 0, 1, 1, 3, 0));
    }

    private static void turning() {
        WatchServer x = Scene.watcher(1, 3, 10, 0);
        x.tick(2);
        CHECK.due("READY", x.subscription(0, 8), 1);
        CHECK.due("LIFE LEFT", x.subscription(0, 4), 8);
        CHECK.due("ON, as it was", x.turn(0, 0, true), 0);
        CHECK.due("LIFE LEFT is LIFE", x.subscription(0, 4), 10);
        x.tick(1);
        CHECK.due("off", x.turn(0, 0, false), 1);
        CHECK.due("LIFE LEFT is LIFE again", x.subscription(0, 4), 10);
        CHECK.due("it is not ON", x.subscription(0, 1), 0);
        CHECK.due("not READY then", x.subscription(0, 8), 0);
        CHECK.due("off, as it was", x.turn(0, 0, false), 0);
        Scene.changeAndTick(x, 4);
        CHECK.due("SAMPLED also if it is not ON", x.itemOf(0, 3), 2);
        CHECK.due("LATE: a sign of life", x.publish(0, -1, 0), 1);
        CHECK.due("no entries", x.message(0, 2), 0);
        CHECK.due("no MORE", x.message(0, 3), 0);
        CHECK.due("ON", x.turn(0, 0, true), 1);
        CHECK.due("READY again", x.subscription(0, 8), 1);
        WatchServer y = Scene.clients();
        y.subscribe(0, 5, 5, 5, 5);
        CHECK.refused(y, "nobody", -1, () -> y.turn(4, 9, false));
        CHECK.refused(y, "CLOSED", -2, () -> y.turn(2, 9, false));
        CHECK.refused(y, "NEW", -3, () -> y.turn(3, 9, false));
        CHECK.refused(y, "none such", -5, () -> y.turn(0, 1, false));
        CHECK.refused(y, "another's", -5, () -> y.turn(1, 0, false));
    }

    private static void transferring() {
        WatchServer x = Scene.clients();
        x.subscribe(0, 1, 1, 10, 0);
        x.tick(2);
        CHECK.due("LIFE LEFT", x.subscription(0, 4), 8);
        CHECK.due("to the one that has it", x.transfer(0, 0), 0);
        CHECK.due("LIFE LEFT is LIFE", x.subscription(0, 4), 10);
        x.tick(1);
        CHECK.due("to another", x.transfer(1, 0), 1);
        CHECK.due("LIFE LEFT is LIFE again", x.subscription(0, 4), 10);
        CHECK.due("its SESSION", x.subscription(0, 0), 1);
        CHECK.due("still LATE", x.subscription(0, 5), 1);
        x.activate(0);
        CHECK.refused(x, "the old one's no more", -5, () -> x.turn(0, 0, false));
        CHECK.refused(x, "the old one has none", -9, () -> x.publish(0, -1, 0));
        CHECK.refused(x, "nobody", -1, () -> x.transfer(4, 9));
        CHECK.refused(x, "CLOSED", -2, () -> x.transfer(2, 9));
        CHECK.refused(x, "NEW", -3, () -> x.transfer(3, 9));
        CHECK.refused(x, "none such", -5, () -> x.transfer(0, 1));
        CHECK.refused(x, "-1", -5, () -> x.transfer(0, -1));
        x.unsubscribe(1, 0);
        CHECK.refused(x, "no more", -5, () -> x.transfer(0, 0));
    }

    private static void transferringMovesWhatItHas() {
        WatchServer x = Scene.clients();
        x.subscribe(0, 1, 1, 10, 0);
        x.item(0, 0, 1, 1, 1, true, 2, 0);
        x.publish(0, -1, 0);
        x.publish(0, -1, 0);
        x.tick(1);
        x.transfer(1, 0);
        CHECK.due("the old one's REQUEST stays", x.sessionOf(0, 2), 1);
        CHECK.due("none of the new one", x.sessionOf(1, 2), 0);
        CHECK.due("the old one's MAIL stays", x.mail(0, 0), 0);
        CHECK.due("no MESSAGE by the old one's REQUEST", Scene.changeAndTick(x, 2), 0);
        CHECK.due("the new one's", x.publish(1, 0, 1), 1);
        CHECK.due("KEPT came with it", x.acknowledged(), 1);
        CHECK.due("the new one's MAIL", x.mail(1, 0), 1);
        CHECK.due("ITEMS came with it", x.mode(1, 0, 0), 2);
        x.activate(0);
        CHECK.refused(x, "not the old one's ITEM", -6, () -> x.mode(0, 0, 1));
        CHECK.due("closing the old one takes nothing", x.close(0), 0);
        CHECK.due("closing the new one takes it", x.close(1), 1);
    }

    private static void unsubscribing() {
        WatchServer x = Scene.clients();
        x.subscribe(0, 1, 1, 10, 0);
        x.subscribe(0, 1, 1, 10, 0);
        x.item(0, 0, 1, 1, 1, true, 2, 0);
        x.item(0, 1, 1, 1, 1, true, 2, 0);
        x.tick(1);
        x.publish(0, -1, 0);
        x.publish(0, -1, 0);
        x.publish(0, -1, 0);
        CHECK.due("both are KEPT", x.message(0, 5) + x.message(1, 5), 2);
        x.activate(1);
        CHECK.refused(x, "nobody", -1, () -> x.unsubscribe(4, 9));
        CHECK.refused(x, "CLOSED", -2, () -> x.unsubscribe(2, 9));
        CHECK.refused(x, "NEW", -3, () -> x.unsubscribe(3, 9));
        CHECK.refused(x, "none such", -5, () -> x.unsubscribe(0, 2));
        CHECK.refused(x, "another's", -5, () -> x.unsubscribe(1, 0));
        CHECK.due("unsubscribe", x.unsubscribe(0, 0), 1);
        CHECK.due("it is no more", x.subscription(0, 0), -9);
        CHECK.due("nor its ITEM", x.itemOf(0, 0), -9);
        CHECK.due("its MESSAGE is KEPT no more", x.message(0, 5), 0);
        CHECK.due("but is a MESSAGE still", x.message(0, 2), 1);
        CHECK.due("in the MAIL still", x.mail(0, 0), 0);
        CHECK.due("the other one is", x.subscription(1, 0), 0);
        CHECK.due("and its ITEM", x.itemOf(1, 0), 1);
        CHECK.due("and its MESSAGE is KEPT", x.message(1, 5), 1);
        CHECK.due("SUBSCRIPTIONS", x.status(4), 1);
        CHECK.due("ITEMS", x.status(5), 1);
        CHECK.due("REQUESTS stay", x.sessionOf(0, 2), 1);
        CHECK.refused(x, "twice", -5, () -> x.unsubscribe(0, 0));
        CHECK.due("numbers go on", x.subscribe(0, 1, 1, 10, 0), 2);
    }

    private static void views() {
        WatchServer x = Scene.watcher(1, 3, 10, 0);
        x.item(0, 0, 2, 1, 1, true, 1, 0);
        x.tick(1);
        int[] late = {0, 1, 1, 3, 9, 1, 2, 0, 1};
        for (int k = 0; k <= 8; k++) {
            int what = k;
            CHECK.tells(x, "LATE, " + what, late[what], () -> x.subscription(0, what));
        }
        x.publish(0, -1, 0);
        int[] sent = {0, 1, 2, 3, 10, 0, 2, 1, 0};
        for (int what = 0; what <= 8; what++) {
            CHECK.due("SENT, " + what, x.subscription(0, what), sent[what]);
        }
        CHECK.tells(x, "what 9", -9, () -> x.subscription(0, 9));
        CHECK.tells(x, "what -1", -9, () -> x.subscription(0, -1));
        CHECK.tells(x, "none such", -9, () -> x.subscription(1, 0));
        CHECK.tells(x, "-1", -9, () -> x.subscription(-1, 0));
    }
}

/** The boundary cases that the document names of a TICK (Terms, promise 5), a test each. */
public final class TickEdgesTest {
    private static final Check CHECK = new Check();
    private static final String TERMS = "Terms";

    public static void main(String[] args) {
        CHECK.sentence(TERMS, "TICK: TIME is 1 more.", TickEdgesTest::timeIsOneMore);
        CHECK.sentence(TERMS, "each ITEM (of SUBSCRIPTIONS that there are)", TickEdgesTest::itemsOfThoseThatAre);
        CHECK.sentence(TERMS, "in MODE 1 or 2 is SAMPLED", TickEdgesTest::sampledModes);
        CHECK.sentence(TERMS, "if TIME less BORN is a multiple of INTERVAL.", TickEdgesTest::multiplesOfInterval);
        CHECK.sentence(TERMS, "Then each SUBSCRIPTION, by numbers,", TickEdgesTest::byNumbers);
        CHECK.sentence(TERMS, "if TIME less BORN is a multiple of PERIOD", TickEdgesTest::multiplesOfPeriod);
        CHECK.sentence(TERMS, "if it is READY: with a REQUEST a MESSAGE is made", TickEdgesTest::readyWithRequest);
        CHECK.sentence(TERMS, "and again as long as there is MORE", TickEdgesTest::asLongAsMore);
        CHECK.sentence(TERMS, "and a REQUEST; without one it is SHORT.", TickEdgesTest::asLongAsRequest);
        CHECK.sentence(TERMS, "KEEP LEFT is 1 less, if it has SENT", TickEdgesTest::keepLeftIfSent);
        CHECK.sentence(TERMS, "if it has not SENT", TickEdgesTest::notSent);
        CHECK.sentence(TERMS, "or KEEP LEFT is 0 or less: with a REQUEST a MESSAGE is made", TickEdgesTest::keepIsOver);
        CHECK.sentence(TERMS, "a MESSAGE is made; without one it is SHORT. SHORT:", TickEdgesTest::notReadyShort);
        CHECK.sentence(TERMS, "it is LATE (if it was not, since now)", TickEdgesTest::lateSinceTheFirst);
        CHECK.sentence(TERMS, "LIFE LEFT is 1 less", TickEdgesTest::lifeIsLess);
        CHECK.sentence(TERMS, "at 0 the SUBSCRIPTION, its ITEMS and KEPT MESSAGES are no more.",
            TickEdgesTest::lifeIsOver);
        CHECK.sentence(TERMS, "Then SESSIONS, by numbers, whose END is TIME are CLOSED.", TickEdgesTest::sessionsLast);
        promise();
        CHECK.done();
    }

    private static void promise() {
        String five = "Promise 5: tick";
        CHECK.sentence(five, "TICKS: how many MESSAGES were made.", TickEdgesTest::howMany);
        CHECK.sentence(five, "-7 n is not 1 .. 1000", TickEdgesTest::numbers);
        CHECK.sentence(five, "-8 TIME would be above 100000.", TickEdgesTest::timeIsFull);
        CHECK.sentence(five, "(When there are 900 MESSAGES a MESSAGE that should be made is none: it is SHORT.)",
            TickEdgesTest::messagesAreFull);
    }

    private static void timeIsOneMore() {
        WatchServer x = new WatchServer();
        x.tick(1);
        CHECK.due("one TICK", x.status(0), 1);
        x.tick(2);
        CHECK.due("two more", x.status(0), 3);
    }

    private static void itemsOfThoseThatAre() {
        WatchServer x = Scene.watcher(100, 20, 100, 0);
        x.subscribe(0, 1, 20, 3, 0);
        x.item(0, 1, 1, 1, 8, true, 2, 0);
        x.item(0, 0, 1, 1, 8, true, 2, 0);
        x.drop(0, 2);
        x.tick(3);
        CHECK.due("its SUBSCRIPTION is no more", x.itemOf(1, 3), -9);
        Scene.changeAndTick(x, 5);
        CHECK.due("the one that is, is SAMPLED", x.itemOf(0, 3), 2);
        CHECK.due("the one that is no more is not", x.itemOf(1, 3), -9);
        CHECK.due("nor the one that was dropped", x.itemOf(2, 3), -9);
    }

    private static void sampledModes() {
        WatchServer x = Scene.client();
        x.subscribe(0, 100, 20, 100, 0);
        for (int mode = 0; mode <= 2; mode++) {
            x.item(0, 0, 1, 1, 8, true, mode, 0);
        }
        Scene.changeAndTick(x, 5);
        for (int mode = 0; mode <= 2; mode++) {
            CHECK.due("MODE " + mode, x.itemOf(mode, 3), mode == 0 ? 0 : 2);
        }
        x.turn(0, 0, false);
        Scene.changeAndTick(x, 6);
        CHECK.due("also if the SUBSCRIPTION is not ON", x.itemOf(1, 3), 3);
    }

    private static void multiplesOfInterval() {
        WatchServer x = Scene.client();
        x.subscribe(0, 100, 20, 100, 0);
        x.tick(5);
        x.item(0, 0, 1, 3, 8, true, 2, 0);
        int[] due = {1, 1, 2, 2, 2, 3, 3};
        for (int k = 0; k < due.length; k++) {
            Scene.changeAndTick(x, k + 1);
            CHECK.due("TIME less BORN is " + (k + 1), x.itemOf(0, 3), due[k]);
        }
        x.mode(0, 0, 0);
        x.mode(0, 0, 2);
        Scene.changeAndTick(x, 20);
        CHECK.due("BORN stays when MODE is another: 8", x.itemOf(0, 3), 1);
        Scene.changeAndTick(x, 21);
        CHECK.due("BORN stays when MODE is another: 9", x.itemOf(0, 3), 2);
    }

    private static void byNumbers() {
        WatchServer x = Scene.client();
        for (int sub = 0; sub < 3; sub++) {
            x.subscribe(0, 3 - sub, 20, 100, 0);
        }
        x.tick(5);
        for (int m = 0; m < 3; m++) {
            x.publish(0, -1, 0);
        }
        for (int sub = 0; sub < 3; sub++) {
            x.modify(0, sub, 1, 1, 100, 0);
        }
        x.publish(0, -1, 0);
        x.publish(0, -1, 0);
        CHECK.due("two REQUESTS", x.tick(1), 2);
        CHECK.due("the first one's", x.message(3, 0), 0);
        CHECK.due("the second one's", x.message(4, 0), 1);
        CHECK.due("the third is LATE", x.subscription(2, 5), 1);
    }

    private static void multiplesOfPeriod() {
        WatchServer x = Scene.client();
        x.tick(5);
        x.subscribe(0, 3, 1, 100, 0);
        int[] due = {100, 100, 99, 99, 99, 98, 98, 98, 97};
        for (int k = 0; k < due.length; k++) {
            x.tick(1);
            CHECK.due("TIME less BORN is " + (k + 1), x.subscription(0, 4), due[k]);
        }
    }

    private static void readyWithRequest() {
        WatchServer x = Scene.watcher(1, 20, 100, 0);
        x.publish(0, -1, 0);
        CHECK.due("one", x.tick(1), 1);
        CHECK.due("VALUES", x.message(0, 2), 1);
        CHECK.due("its TIME", x.message(0, 4), 1);
        CHECK.due("not LATE", x.subscription(0, 5), 0);
        CHECK.due("LIFE LEFT", x.subscription(0, 4), 100);
    }

    /** SUBSCRIPTION 0 with MOST 2 and 6 entries, a TICK before its PERIOD is over. */
    private static WatchServer withSixEntries() {
        WatchServer x = Scene.watcher(6, 20, 100, 2);
        for (int v = 1; v <= 5; v++) {
            Scene.changeAndTick(x, v);
        }
        return x;
    }

    private static void asLongAsMore() {
        WatchServer x = withSixEntries();
        for (int k = 0; k < 4; k++) {
            x.publish(0, -1, 0);
        }
        CHECK.due("three of them, not four", x.tick(1), 3);
        CHECK.due("MORE", x.message(0, 3) + x.message(1, 3), 2);
        CHECK.due("then no MORE", x.message(2, 3), 0);
        CHECK.due("one REQUEST waits", x.sessionOf(0, 2), 1);
        CHECK.due("NEXT", x.subscription(0, 2), 4);
    }

    private static void asLongAsRequest() {
        WatchServer x = withSixEntries();
        x.publish(0, -1, 0);
        x.publish(0, -1, 0);
        CHECK.due("two of them", x.tick(1), 2);
        CHECK.due("MORE", x.message(1, 3), 1);
        CHECK.due("it had one: not LATE", x.subscription(0, 5), 0);
        CHECK.due("nor SHORT", x.subscription(0, 4), 100);
        x.tick(6);
        CHECK.due("READY, without one: LATE", x.subscription(0, 5), 1);
        CHECK.due("and SHORT", x.subscription(0, 4), 99);
        CHECK.due("KEEP LEFT is not less", x.subscription(0, 3), 20);
    }

    private static void keepLeftIfSent() {
        WatchServer x = Scene.client();
        x.subscribe(0, 2, 3, 100, 0);
        x.tick(4);
        CHECK.due("not SENT", x.subscription(0, 3), 3);
        x.publish(0, -1, 0);
        x.tick(1);
        CHECK.due("SENT, its PERIOD is not over", x.subscription(0, 3), 3);
        x.tick(1);
        CHECK.due("SENT", x.subscription(0, 3), 2);
        x.tick(6);
        CHECK.due("below 0", x.subscription(0, 3), -1);
        x.item(0, 0, 1, 1, 8, true, 2, 0);
        x.tick(2);
        CHECK.due("READY: it is not less", x.subscription(0, 3), -1);
        x.turn(0, 0, false);
        x.tick(2);
        CHECK.due("not ON, so not READY: it is", x.subscription(0, 3), -2);
    }

    private static void notSent() {
        WatchServer x = Scene.client();
        x.subscribe(0, 1, 20, 100, 0);
        x.subscribe(0, 1, 20, 100, 0);
        x.publish(0, -1, 0);
        CHECK.due("with a REQUEST at the first PERIOD", x.tick(1), 1);
        CHECK.due("no entries", x.message(0, 2), 0);
        CHECK.due("without one it is SHORT", x.subscription(1, 4), 99);
        x.tick(1);
        CHECK.due("it has SENT: not SHORT", x.subscription(0, 4), 100);
        CHECK.due("it has not: SHORT again", x.subscription(1, 4), 98);
    }

    private static void keepIsOver() {
        WatchServer x = Scene.client();
        x.subscribe(0, 1, 2, 100, 0);
        x.publish(0, -1, 0);
        x.publish(0, -1, 0);
        x.tick(1);
        CHECK.due("KEEP LEFT is 1", x.tick(1), 0);
        CHECK.due("KEEP LEFT is 0", x.tick(1), 1);
        x.tick(3);
        CHECK.due("below 0", x.subscription(0, 3), -1);
        x.session(1000);
        x.activate(1);
        x.subscribe(1, 100, 20, 100, 0);
        x.publish(1, -1, 0);
        x.transfer(1, 0);
        CHECK.due("below 0, with a REQUEST", x.tick(1), 1);
        CHECK.due("a sign of life", x.message(2, 2), 0);
        CHECK.due("KEEP LEFT is KEEP", x.subscription(0, 3), 2);
        CHECK.due("LATE no more", x.subscription(0, 5), 0);
    }

    private static void notReadyShort() {
        WatchServer x = Scene.client();
        x.subscribe(0, 1, 2, 100, 0);
        x.publish(0, -1, 0);
        x.tick(2);
        CHECK.due("KEEP LEFT is 1: not LATE", x.subscription(0, 5), 0);
        CHECK.due("nor SHORT", x.subscription(0, 4), 100);
        x.tick(1);
        CHECK.due("KEEP LEFT is 0: LATE", x.subscription(0, 5), 1);
        CHECK.due("and SHORT", x.subscription(0, 4), 99);
    }

    private static void lateSinceTheFirst() {
        WatchServer x = Scene.client();
        x.subscribe(0, 3, 20, 100, 0);
        x.subscribe(0, 2, 20, 100, 0);
        x.tick(4);
        x.publish(0, -1, 0);
        CHECK.due("since 2, though SHORT again at 4", x.message(0, 0), 1);
        x.modify(0, 1, 2, 1, 100, 0);
        x.tick(2);
        CHECK.due("LATE anew", x.subscription(1, 5), 1);
        x.publish(0, -1, 0);
        CHECK.due("since 3, the other since 6", x.message(1, 0), 0);
    }

    private static void lifeIsLess() {
        WatchServer x = Scene.watcher(1, 20, 100, 0);
        for (int left = 99; left >= 97; left--) {
            x.tick(1);
            CHECK.due("LIFE LEFT", x.subscription(0, 4), left);
        }
        x.tick(96);
        CHECK.due("the last of it", x.subscription(0, 4), 1);
        x.publish(0, -1, 0);
        CHECK.due("a MESSAGE: LIFE again", x.subscription(0, 4), 100);
    }

    private static void lifeIsOver() {
        WatchServer x = Scene.watcher(1, 20, 3, 1);
        x.item(0, 0, 1, 1, 8, true, 0, 0);
        x.subscribe(0, 1, 20, 100, 0);
        x.publish(0, -1, 0);
        x.tick(1);
        x.change(1, 4);
        x.tick(2);
        CHECK.due("LIFE LEFT 1: it is", x.subscription(0, 4), 1);
        CHECK.due("its ITEMS are", x.subscription(0, 6), 2);
        CHECK.due("its MESSAGE is KEPT", x.message(0, 5), 1);
        x.tick(1);
        CHECK.due("the SUBSCRIPTION is no more", x.subscription(0, 4), -9);
        CHECK.due("its first ITEM", x.itemOf(0, 0), -9);
        CHECK.due("its second ITEM", x.itemOf(1, 0), -9);
        CHECK.due("its MESSAGE is KEPT no more", x.message(0, 5), 0);
        CHECK.due("but in the MAIL", x.mail(0, 0), 0);
        CHECK.due("the SESSION's SUBSCRIPTIONS", x.sessionOf(0, 3), 1);
        x.publish(0, -1, 0);
        CHECK.due("LATE for the longest is no more: the other one", x.message(1, 0), 1);
    }

    private static void sessionsLast() {
        WatchServer x = new WatchServer();
        x.node(1);
        x.session(6);
        x.session(6);
        for (int s = 0; s < 2; s++) {
            x.activate(s);
            x.subscribe(s, 6, 20, 100, 0);
            x.item(s, s, 0, 6, 8, true, 2, 0);
            x.publish(s, -1, 0);
        }
        x.change(0, 5);
        x.tick(5);
        CHECK.due("both are ACTIVE", x.sessionOf(0, 0) + x.sessionOf(1, 0), 2);
        CHECK.due("in the TICK of their END they still publish", x.tick(1), 2);
        CHECK.due("with what was SAMPLED in it", x.message(0, 2) + x.message(1, 2), 4);
        CHECK.due("into their MAIL", x.mail(0, 0) * 10 + x.mail(1, 0), 1);
        CHECK.due("both are CLOSED", x.sessionOf(0, 0) + x.sessionOf(1, 0), 4);
        CHECK.due("the MESSAGES are KEPT no more", x.message(0, 5) + x.message(1, 5), 0);
        CHECK.due("nothing is left", x.status(3) + x.status(4) + x.status(5), 0);
    }

    private static void howMany() {
        WatchServer x = Scene.clients();
        CHECK.due("none without SUBSCRIPTIONS", x.tick(1), 0);
        x.subscribe(0, 2, 1, 100, 0);
        x.subscribe(1, 3, 1, 100, 0);
        for (int k = 0; k < 4; k++) {
            x.publish(0, -1, 0);
            x.publish(1, -1, 0);
        }
        CHECK.due("of all SESSIONS, in all of the TICKS", x.tick(6), 5);
        CHECK.due("MESSAGES", x.status(6), 5);
        CHECK.due("those of these TICKS alone", x.tick(1), 0);
        CHECK.due("one more", x.tick(1), 1);
    }

    private static void numbers() {
        WatchServer x = new WatchServer();
        for (int n : new int[] {0, -1, 1001, Integer.MIN_VALUE, Integer.MAX_VALUE}) {
            CHECK.refused(x, "n " + n, -7, () -> x.tick(n));
        }
        CHECK.due("the smallest", x.tick(1), 0);
        CHECK.due("the largest", x.tick(1000), 0);
        CHECK.due("TIME", x.status(0), 1001);
    }

    private static void timeIsFull() {
        WatchServer x = new WatchServer();
        for (int k = 0; k < 99; k++) {
            x.tick(1000);
        }
        CHECK.refused(x, "the number is told first", -7, () -> x.tick(1001));
        x.tick(1);
        CHECK.refused(x, "100001", -8, () -> x.tick(1000));
        CHECK.due("100000", x.tick(999), 0);
        CHECK.due("TIME", x.status(0), 100000);
        CHECK.refused(x, "one more", -8, () -> x.tick(1));
        CHECK.refused(x, "the number is told first then too", -7, () -> x.tick(0));
    }

    private static void messagesAreFull() {
        WatchServer x = Scene.watcher(1, 20, 3, 0);
        Scene.publish(x, 899);
        Scene.waitTwice(x);
        CHECK.due("the 900th is made", Scene.changeAndTick(x, -1), 1);
        CHECK.due("not SHORT", x.subscription(0, 4), 3);
        CHECK.due("a 901st is none", Scene.changeAndTick(x, -2), 0);
        CHECK.due("though a REQUEST waits", x.sessionOf(0, 2), 1);
        CHECK.due("MESSAGES", x.status(6), 900);
        CHECK.due("SHORT", x.subscription(0, 4), 2);
        CHECK.due("LATE", x.subscription(0, 5), 1);
        x.tick(2);
        CHECK.due("till it is no more", x.status(4), 0);
        x.subscribe(0, 1, 1, 3, 0);
        CHECK.due("nor a sign of life", x.tick(1), 0);
        CHECK.due("SHORT too", x.subscription(1, 4), 2);
    }
}

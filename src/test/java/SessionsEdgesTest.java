import java.util.function.LongSupplier;

/** The boundary cases that the document names of SESSIONS (Terms, promises 6 to 8 and 27), a test each. */
public final class SessionsEdgesTest {
    private static final Check CHECK = new Check();
    private static final String TERMS = "Terms";

    public static void main(String[] args) {
        CHECK.sentence(TERMS, "SESSIONS have numbers from 0 on", SessionsEdgesTest::fromZeroOn);
        CHECK.sentence(TERMS, "(12 at most are ever made)", SessionsEdgesTest::twelveEver);
        CHECK.sentence(TERMS, "a TIMEOUT (1 .. 1000)", SessionsEdgesTest::timeouts);
        CHECK.sentence(TERMS, "each is NEW, ACTIVE or CLOSED", SessionsEdgesTest::states);
        CHECK.sentence(TERMS, "A SERVICE of a SESSION that is ACTIVE", SessionsEdgesTest::servicesRenew);
        CHECK.sentence(TERMS, "and is not refused with -1 to -3", SessionsEdgesTest::firstRefusalsDoNotRenew);
        CHECK.sentence(TERMS, "makes END TIME and TIMEOUT", SessionsEdgesTest::otherRefusalsRenew);
        CHECK.sentence(TERMS, "When TIME reaches END", SessionsEdgesTest::reachesEnd);
        CHECK.sentence(TERMS, "a SESSION that is not CLOSED is CLOSED", SessionsEdgesTest::closedOnceOnly);
        CHECK.sentence(TERMS, "its SUBSCRIPTIONS are no more", SessionsEdgesTest::subscriptionsNoMore);
        CHECK.sentence(TERMS, "its REQUESTS are gone", SessionsEdgesTest::requestsGone);
        CHECK.sentence(TERMS, "its MAIL stays", SessionsEdgesTest::mailStays);
        promises();
        CHECK.done();
    }

    private static void promises() {
        String six = "Promise 6: session";
        CHECK.sentence(six, "A SESSION, NEW, END TIME and TIMEOUT", SessionsEdgesTest::madeLater);
        CHECK.sentence(six, "-7;", SessionsEdgesTest::wrongTimeouts);
        CHECK.sentence(six, "-8.", SessionsEdgesTest::noRoom);
        String seven = "Promise 7: activate";
        CHECK.sentence(seven, "it is ACTIVE: 1", SessionsEdgesTest::activating);
        CHECK.sentence(seven, "(also if it was; END anew)", SessionsEdgesTest::activatingTwice);
        CHECK.sentence(seven, "-1;", SessionsEdgesTest::activatingNobody);
        CHECK.sentence(seven, "-2.", SessionsEdgesTest::activatingClosed);
        String eight = "Promise 8: close";
        CHECK.sentence(eight, "how many SUBSCRIPTIONS are no more by that", SessionsEdgesTest::closing);
        CHECK.sentence(eight, "-1; -2; -3.", SessionsEdgesTest::closingRefused);
        String last = "Promise 27: sessionOf";
        CHECK.sentence(last, "0 0 NEW, 1 ACTIVE, 2 CLOSED", SessionsEdgesTest::statesShown);
        CHECK.sentence(last, "1 END less TIME", SessionsEdgesTest::endLessTime);
        CHECK.sentence(last, "2 REQUESTS", SessionsEdgesTest::requestsShown);
        CHECK.sentence(last, "3 SUBSCRIPTIONS", SessionsEdgesTest::subscriptionsShown);
        CHECK.sentence(last, "4 how many MESSAGES its MAIL has", SessionsEdgesTest::mailShown);
        CHECK.sentence(last, "-9 no such SESSION, what.", SessionsEdgesTest::noneSuch);
    }

    private static void fromZeroOn() {
        WatchServer x = new WatchServer();
        for (int s = 0; s < 3; s++) {
            CHECK.due("session", x.session(10 + s), s);
        }
        CHECK.due("the number 0 is the first one's", x.sessionOf(0, 1), 10);
        CHECK.due("the number 2 is the third one's", x.sessionOf(2, 1), 12);
        CHECK.due("a 3 is none", x.activate(3), -1);
    }

    private static WatchServer fullOfSessions() {
        WatchServer x = new WatchServer();
        for (int s = 0; s < 12; s++) {
            x.session(2 + s);
            x.activate(s);
        }
        return x;
    }

    private static void twelveEver() {
        WatchServer x = new WatchServer();
        for (int s = 0; s < 11; s++) {
            x.session(1);
        }
        x.tick(1);
        CHECK.due("all of them are CLOSED", x.status(3), 0);
        CHECK.due("the 12th", x.session(7), 11);
        CHECK.due("a 13th, though 11 are CLOSED", x.session(7), -8);
        CHECK.due("the 12th is there", x.activate(11), 1);
        CHECK.due("the 13th is not", x.activate(12), -1);
        CHECK.due("one is not CLOSED", x.status(3), 1);
    }

    private static void timeouts() {
        WatchServer x = new WatchServer();
        CHECK.due("0", x.session(0), -7);
        CHECK.due("1", x.session(1), 0);
        CHECK.due("1000", x.session(1000), 1);
        CHECK.due("1001", x.session(1001), -7);
        x.tick(1);
        CHECK.due("1 is over with one TICK", x.sessionOf(0, 0), 2);
        x.tick(998);
        CHECK.due("1000 is not over with 999", x.sessionOf(1, 0), 0);
        x.tick(1);
        CHECK.due("but with 1000", x.sessionOf(1, 0), 2);
    }

    private static void states() {
        WatchServer x = new WatchServer();
        x.session(5);
        CHECK.due("NEW", x.sessionOf(0, 0), 0);
        x.activate(0);
        CHECK.due("ACTIVE", x.sessionOf(0, 0), 1);
        x.close(0);
        CHECK.due("CLOSED", x.sessionOf(0, 0), 2);
        x.activate(0);
        CHECK.due("CLOSED for ever", x.sessionOf(0, 0), 2);
    }

    /** SESSION 0 with SUBSCRIPTION 0, its ITEM 0 in MODE 1, MESSAGE 0 of number 1 that is KEPT, a REFERENCE. */
    private static WatchServer busy() {
        WatchServer x = Scene.watcher(100, 20, 100, 0);
        x.refer(0, 1, 0);
        x.publish(0, -1, 0);
        x.tick(100);
        x.mode(0, 0, 1);
        return x;
    }

    private static void servicesRenew() {
        WatchServer x = busy();
        renews(x, "activate", 1, () -> x.activate(0));
        renews(x, "browse", 1, () -> x.browse(0, 0, 0, 1, 0));
        renews(x, "read", 0, () -> x.read(0, 1));
        renews(x, "write", 1, () -> x.write(0, 2, 1));
        renews(x, "subscribe", 1, () -> x.subscribe(0, 100, 1, 100, 0));
        renews(x, "modify", 1, () -> x.modify(0, 0, 100, 1, 100, 0));
        renews(x, "turn", 0, () -> x.turn(0, 0, true));
        renews(x, "transfer", 0, () -> x.transfer(0, 0));
        renews(x, "item", 1, () -> x.item(0, 0, 1, 1, 1, true, 0, 0));
        renews(x, "mode", 1, () -> x.mode(0, 0, 1));
        renews(x, "drop", 0, () -> x.drop(0, 1));
        renews(x, "publish", 0, () -> x.publish(0, -1, 0));
        renews(x, "again", 0, () -> x.again(0, 0, 1));
        renews(x, "unsubscribe", 1, () -> x.unsubscribe(0, 0));
        renews(x, "close", 1, () -> x.close(0));
    }

    private static void renews(WatchServer x, String service, long answer, LongSupplier call) {
        x.tick(1);
        CHECK.due("before " + service, x.sessionOf(0, 1), 999);
        CHECK.due(service, call.getAsLong(), answer);
        CHECK.due("END less TIME after " + service, x.sessionOf(0, 1), 1000);
    }

    private static void firstRefusalsDoNotRenew() {
        WatchServer x = new WatchServer();
        x.node(1);
        x.session(50);
        x.session(50);
        x.activate(1);
        x.close(1);
        x.tick(3);
        CHECK.due("NEW", x.read(0, 0), -3);
        CHECK.due("NEW: END as it was", x.sessionOf(0, 1), 47);
        CHECK.due("NEW still", x.sessionOf(0, 0), 0);
        CHECK.due("CLOSED", x.read(1, 0), -2);
        CHECK.due("CLOSED: END as it was", x.sessionOf(1, 1), 47);
        CHECK.due("CLOSED, activate", x.activate(1), -2);
        CHECK.due("CLOSED, activate: END as it was", x.sessionOf(1, 1), 47);
        CHECK.due("nobody", x.read(2, 0), -1);
        CHECK.due("nobody: the others' END as it was", x.sessionOf(0, 1), 47);
        x.tick(47);
        CHECK.due("it is CLOSED at its first END", x.sessionOf(0, 0), 2);
    }

    private static void otherRefusalsRenew() {
        WatchServer x = busy();
        renews(x, "browse of no NODE", -4, () -> x.browse(0, 3, 0, 1, 0));
        renews(x, "browse, a wrong way", -7, () -> x.browse(0, 0, 3, 1, 0));
        renews(x, "browse of none", -9, () -> x.browse(0, 0, 0, 1, 1));
        renews(x, "read of no NODE", -4, () -> x.read(0, 3));
        renews(x, "write of what may not be written", -4, () -> x.write(0, 1, 1));
        renews(x, "subscribe, a wrong number", -7, () -> x.subscribe(0, 0, 1, 100, 0));
        renews(x, "modify of none", -5, () -> x.modify(0, 1, 1, 1, 100, 0));
        renews(x, "modify, a wrong number", -7, () -> x.modify(0, 0, 0, 1, 100, 0));
        renews(x, "turn of none", -5, () -> x.turn(0, 1, true));
        renews(x, "transfer of none", -5, () -> x.transfer(0, 1));
        renews(x, "unsubscribe of none", -5, () -> x.unsubscribe(0, 1));
        renews(x, "item of none", -5, () -> x.item(0, 1, 1, 1, 1, true, 0, 0));
        renews(x, "item on no NODE", -4, () -> x.item(0, 0, 0, 1, 1, true, 0, 0));
        renews(x, "item, a wrong number", -7, () -> x.item(0, 0, 1, 0, 1, true, 0, 0));
        renews(x, "mode of none", -6, () -> x.mode(0, 1, 1));
        renews(x, "mode, a wrong number", -7, () -> x.mode(0, 0, 3));
        renews(x, "drop of none", -6, () -> x.drop(0, 1));
        renews(x, "again of none", -5, () -> x.again(0, 1, 1));
        renews(x, "again of what is not KEPT", -9, () -> x.again(0, 0, 2));
        for (int k = 0; k < 4; k++) {
            x.publish(0, -1, 0);
        }
        renews(x, "publish, 4 wait", -8, () -> x.publish(0, -1, 0));
        x.unsubscribe(0, 0);
        renews(x, "publish without a SUBSCRIPTION", -9, () -> x.publish(0, -1, 0));
        roomRefusalsRenew();
    }

    private static void roomRefusalsRenew() {
        WatchServer x = busy();
        for (int k = 1; k < 60; k++) {
            x.item(0, 0, 1, 1, 1, true, 0, 0);
        }
        renews(x, "item, 60 were made", -8, () -> x.item(0, 0, 1, 1, 1, true, 0, 0));
        for (int k = 1; k < 20; k++) {
            x.subscribe(0, 100, 1, 100, 0);
        }
        renews(x, "subscribe, 20 were made", -8, () -> x.subscribe(0, 100, 1, 100, 0));
        for (int k = 1; k < 200; k++) {
            x.again(0, 0, 1);
        }
        renews(x, "again, 200 in the MAIL", -8, () -> x.again(0, 0, 1));
    }

    private static void reachesEnd() {
        WatchServer x = new WatchServer();
        x.session(5);
        x.session(5);
        x.activate(1);
        x.session(20);
        x.activate(2);
        x.tick(4);
        CHECK.due("NEW, one TICK before", x.sessionOf(0, 0), 0);
        CHECK.due("ACTIVE, one TICK before", x.sessionOf(1, 0), 1);
        x.tick(1);
        CHECK.due("NEW, at END", x.sessionOf(0, 0), 2);
        CHECK.due("ACTIVE, at END", x.sessionOf(1, 0), 2);
        CHECK.due("one whose END is later", x.sessionOf(2, 0), 1);
        CHECK.due("SESSIONS that are not CLOSED", x.status(3), 1);
        x.tick(1000);
        CHECK.due("END amid many TICKS", x.sessionOf(2, 0), 2);
    }

    private static void closedOnceOnly() {
        WatchServer x = new WatchServer();
        x.session(5);
        x.activate(0);
        x.session(100);
        x.activate(1);
        x.subscribe(0, 100, 1, 3, 0);
        x.transfer(1, 0);
        x.close(0);
        x.tick(5);
        CHECK.due("CLOSED before, and now", x.sessionOf(0, 0), 2);
        CHECK.due("what went to another stays", x.subscription(0, 0), 1);
        CHECK.due("the other is ACTIVE", x.sessionOf(1, 0), 1);
        CHECK.due("one is not CLOSED", x.status(3), 1);
    }

    /** SESSION 0 with END 5, with two SUBSCRIPTIONS that have ITEMS, two REQUESTS; SESSION 1 with one of each. */
    private static WatchServer timingOut() {
        WatchServer x = new WatchServer();
        x.node(1);
        x.session(5);
        x.activate(0);
        x.session(100);
        x.activate(1);
        for (int sub = 0; sub < 3; sub++) {
            x.subscribe(sub / 2, 3, 20, 100, 0);
            x.item(sub / 2, sub, 0, 1, 1, true, 2, 0);
        }
        for (int k = 0; k < 4; k++) {
            x.publish(0, -1, 0);
        }
        x.publish(1, -1, 0);
        x.publish(1, -1, 0);
        x.tick(4);
        return x;
    }

    private static void subscriptionsNoMore() {
        WatchServer x = timingOut();
        CHECK.due("two of its own before", x.sessionOf(0, 3), 2);
        CHECK.due("KEPT before", x.message(0, 5), 1);
        x.tick(1);
        CHECK.due("none now", x.sessionOf(0, 3), 0);
        for (int sub = 0; sub < 2; sub++) {
            CHECK.due("SUBSCRIPTION " + sub, x.subscription(sub, 0), -9);
            CHECK.due("ITEM " + sub, x.itemOf(sub, 0), -9);
            CHECK.due("MESSAGE " + sub + " is KEPT no more", x.message(sub, 5), 0);
        }
        CHECK.due("the other's SUBSCRIPTION stays", x.subscription(2, 0), 1);
        CHECK.due("its ITEM stays", x.itemOf(2, 0), 2);
        CHECK.due("its MESSAGE is KEPT", x.message(2, 5), 1);
        CHECK.due("SUBSCRIPTIONS", x.status(4), 1);
        CHECK.due("ITEMS", x.status(5), 1);
        CHECK.due("no other can have it", x.transfer(1, 0), -5);
    }

    private static void requestsGone() {
        WatchServer x = timingOut();
        CHECK.due("two wait before", x.sessionOf(0, 2), 2);
        x.tick(1);
        CHECK.due("none now", x.sessionOf(0, 2), 0);
        CHECK.due("the other's stays", x.sessionOf(1, 2), 1);
        WatchServer y = timingOut();
        y.close(0);
        CHECK.due("none after close", y.sessionOf(0, 2), 0);
        CHECK.due("the other's stays after close", y.sessionOf(1, 2), 1);
    }

    private static void mailStays() {
        WatchServer x = timingOut();
        x.tick(1);
        CHECK.due("MAIL of the one that timed out", x.sessionOf(0, 4), 2);
        CHECK.due("its first", x.mail(0, 0), 0);
        CHECK.due("its second", x.mail(0, 1), 1);
        CHECK.due("its entries", x.message(1, 2), 1);
        CHECK.due("MESSAGES", x.status(6), 3);
        WatchServer y = timingOut();
        y.close(0);
        CHECK.due("MAIL of the one that was closed", y.mail(0, 1), 1);
    }

    private static void madeLater() {
        WatchServer x = new WatchServer();
        x.tick(7);
        CHECK.due("session", x.session(5), 0);
        CHECK.due("NEW", x.sessionOf(0, 0), 0);
        CHECK.due("END less TIME", x.sessionOf(0, 1), 5);
        x.tick(4);
        CHECK.due("not yet", x.sessionOf(0, 0), 0);
        x.tick(1);
        CHECK.due("TIME is 12", x.sessionOf(0, 0), 2);
    }

    private static void wrongTimeouts() {
        WatchServer x = new WatchServer();
        for (int timeout : new int[] {0, -1, 1001, Integer.MIN_VALUE, Integer.MAX_VALUE}) {
            CHECK.refused(x, "TIMEOUT " + timeout, -7, () -> x.session(timeout));
        }
        CHECK.due("it took no number", x.session(1000), 0);
    }

    private static void noRoom() {
        WatchServer x = fullOfSessions();
        CHECK.refused(x, "one more", -8, () -> x.session(1000));
        CHECK.refused(x, "the TIMEOUT is told first", -7, () -> x.session(1001));
    }

    private static void activating() {
        WatchServer x = new WatchServer();
        x.node(1);
        x.session(10);
        CHECK.due("NEW: no SERVICE", x.read(0, 0), -3);
        x.tick(9);
        CHECK.due("activate, a TICK before END", x.activate(0), 1);
        CHECK.due("ACTIVE", x.sessionOf(0, 0), 1);
        CHECK.due("END anew", x.sessionOf(0, 1), 10);
        CHECK.due("a SERVICE", x.read(0, 0), 0);
    }

    private static void activatingTwice() {
        WatchServer x = Scene.watcher(100, 20, 100, 0);
        x.tick(99);
        CHECK.due("1 also then", x.activate(0), 1);
        CHECK.due("ACTIVE as before", x.sessionOf(0, 0), 1);
        CHECK.due("END anew", x.sessionOf(0, 1), 1000);
        CHECK.due("what it has stays", x.sessionOf(0, 3), 1);
    }

    private static void activatingNobody() {
        WatchServer x = Scene.clients();
        for (int s : new int[] {4, -1, Integer.MIN_VALUE, Integer.MAX_VALUE}) {
            CHECK.refused(x, "SESSION " + s, -1, () -> x.activate(s));
        }
    }

    private static void activatingClosed() {
        WatchServer x = Scene.clients();
        CHECK.refused(x, "CLOSED by its client", -2, () -> x.activate(2));
        x.session(1);
        x.tick(1);
        CHECK.refused(x, "CLOSED at END, never ACTIVE", -2, () -> x.activate(4));
    }

    private static void closing() {
        WatchServer x = Scene.clients();
        CHECK.due("none", x.close(1), 0);
        WatchServer y = Scene.clients();
        for (int sub = 0; sub < 20; sub++) {
            y.subscribe(sub == 7 ? 1 : 0, 100, 1, 3, 0);
        }
        y.unsubscribe(0, 5);
        y.transfer(1, 6);
        CHECK.due("of 20 one was no more, two are another's", y.close(0), 17);
        CHECK.due("those two stay", y.status(4), 2);
        CHECK.due("CLOSED", y.sessionOf(0, 0), 2);
        CHECK.due("the other's", y.close(1), 2);
    }

    private static void closingRefused() {
        WatchServer x = Scene.clients();
        CHECK.refusesSessions(x, "close", x::close);
        CHECK.due("CLOSED", x.close(0), 0);
        CHECK.refused(x, "twice", -2, () -> x.close(0));
        x.session(1);
        x.activate(4);
        x.tick(1);
        CHECK.refused(x, "CLOSED at END", -2, () -> x.close(4));
    }

    private static void statesShown() {
        WatchServer x = Scene.clients();
        x.session(1);
        x.tick(1);
        int[] due = {1, 1, 2, 0, 2};
        for (int k = 0; k < due.length; k++) {
            int s = k;
            CHECK.tells(x, "SESSION " + s, due[s], () -> x.sessionOf(s, 0));
        }
    }

    private static void endLessTime() {
        WatchServer x = Scene.client();
        CHECK.due("TIMEOUT at first", x.sessionOf(0, 1), 1000);
        x.tick(999);
        CHECK.due("before END", x.sessionOf(0, 1), 1);
        x.tick(1);
        CHECK.due("at END", x.sessionOf(0, 1), 0);
        x.tick(3);
        CHECK.due("after END", x.sessionOf(0, 1), -3);
    }

    private static void requestsShown() {
        WatchServer x = Scene.clients();
        x.subscribe(0, 100, 1, 3, 0);
        CHECK.due("none", x.sessionOf(0, 2), 0);
        for (int k = 1; k <= 4; k++) {
            x.publish(0, -1, 0);
            CHECK.due("REQUESTS", x.sessionOf(0, 2), k);
        }
        x.publish(0, -1, 0);
        CHECK.due("a refused one is none", x.sessionOf(0, 2), 4);
        CHECK.due("the other's", x.sessionOf(1, 2), 0);
    }

    private static void subscriptionsShown() {
        WatchServer x = Scene.clients();
        CHECK.due("none", x.sessionOf(0, 3), 0);
        x.subscribe(0, 100, 1, 3, 0);
        x.subscribe(0, 100, 1, 3, 0);
        x.subscribe(0, 100, 1, 3, 0);
        x.transfer(1, 2);
        x.unsubscribe(0, 1);
        CHECK.due("those that it has", x.sessionOf(0, 3), 1);
        CHECK.due("that which it was given", x.sessionOf(1, 3), 1);
    }

    private static void mailShown() {
        WatchServer x = Scene.watcher(1, 20, 100, 0);
        CHECK.due("none", x.sessionOf(0, 4), 0);
        x.publish(0, -1, 0);
        CHECK.due("a REQUEST is no MAIL", x.sessionOf(0, 4), 0);
        x.tick(1);
        CHECK.due("one", x.sessionOf(0, 4), 1);
        x.again(0, 0, 1);
        CHECK.due("the same one again", x.sessionOf(0, 4), 2);
    }

    private static void noneSuch() {
        WatchServer x = Scene.clients();
        for (int s : new int[] {4, -1, Integer.MIN_VALUE, Integer.MAX_VALUE}) {
            CHECK.tells(x, "SESSION " + s, -9, () -> x.sessionOf(s, 0));
        }
        for (int what : new int[] {5, -1, Integer.MIN_VALUE, Integer.MAX_VALUE}) {
            CHECK.tells(x, "what " + what, -9, () -> x.sessionOf(0, what));
        }
    }
}

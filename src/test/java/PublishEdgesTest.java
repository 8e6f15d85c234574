/** The boundary cases that the document names of REQUESTS (Terms), publish and acknowledged (21, 22), a test each. */
public final class PublishEdgesTest {
    private static final Check CHECK = new Check();

    public static void main(String[] args) {
        CHECK.sentence("Terms", "REQUESTS of a SESSION (4 at most): how many of its publish() calls wait.",
            PublishEdgesTest::fourRequests);
        String publish = "Promise 21: publish";
        CHECK.sentence(publish, "First, if sub is not -1", PublishEdgesTest::minusOne);
        CHECK.sentence(publish, "the MESSAGE of number n of that SUBSCRIPTION is acknowledged: KEPT no more",
            PublishEdgesTest::thatOneAlone);
        CHECK.sentence(publish, "Then, of the SESSION's SUBSCRIPTIONS", PublishEdgesTest::acknowledgedFirst);
        CHECK.sentence(publish, "that which is LATE for the longest", PublishEdgesTest::lateForTheLongest);
        CHECK.sentence(publish, "without one the first, by numbers", PublishEdgesTest::lateBeforeMore);
        CHECK.sentence(publish, "whose latest MESSAGE had MORE", PublishEdgesTest::latestHadMore);
        CHECK.sentence(publish, "and that is READY", PublishEdgesTest::thatIsReady);
        CHECK.sentence(publish, "a MESSAGE is made at once: 1", PublishEdgesTest::atOnce);
        CHECK.sentence(publish, "else the REQUEST waits: 0.", PublishEdgesTest::waits);
        CHECK.sentence(publish, "-1; -2; -3;", PublishEdgesTest::sessions);
        CHECK.sentence(publish, "-9 the SESSION has no SUBSCRIPTION", PublishEdgesTest::noSubscription);
        CHECK.sentence(publish, "-8 4 REQUESTS wait", PublishEdgesTest::fourWait);
        CHECK.sentence(publish, "or 900 MESSAGES.", PublishEdgesTest::nineHundred);
        CHECK.sentence(publish, "(When it is refused, nothing is acknowledged.)", PublishEdgesTest::refusedOnes);
        acknowledged();
        CHECK.done();
    }

    private static void acknowledged() {
        String acknowledged = "Promise 22: acknowledged";
        CHECK.sentence(acknowledged, "Of the latest publish() that was not refused",
            PublishEdgesTest::latestNotRefused);
        CHECK.sentence(acknowledged, "1 what it acknowledged was KEPT", PublishEdgesTest::wasKept);
        CHECK.sentence(acknowledged, "-5 there was no such SUBSCRIPTION", PublishEdgesTest::noSuchSubscription);
        CHECK.sentence(acknowledged, "or of another SESSION", PublishEdgesTest::anotherSession);
        CHECK.sentence(acknowledged, "-9 no such MESSAGE was KEPT", PublishEdgesTest::notKept);
        CHECK.sentence(acknowledged, "0 it acknowledged nothing.", PublishEdgesTest::nothingAsked);
        CHECK.sentence(acknowledged, "0 without one.", PublishEdgesTest::withoutOne);
    }

    private static void fourRequests() {
        WatchServer x = Scene.clients();
        x.subscribe(0, 2, 1, 100, 0);
        x.subscribe(1, 100, 1, 100, 0);
        for (int k = 1; k <= 4; k++) {
            CHECK.due("it waits", x.publish(0, -1, 0), 0);
            CHECK.due("REQUESTS", x.sessionOf(0, 2), k);
        }
        CHECK.due("a fifth", x.publish(0, -1, 0), -8);
        CHECK.due("REQUESTS still", x.sessionOf(0, 2), 4);
        CHECK.due("another SESSION has its own", x.publish(1, -1, 0), 0);
        x.tick(2);
        CHECK.due("one was answered", x.sessionOf(0, 2), 3);
        CHECK.due("so there is room for one", x.publish(0, -1, 0), 0);
        CHECK.due("and no more", x.publish(0, -1, 0), -8);
    }

    /** SUBSCRIPTION 0 of SESSION 0 with count MESSAGES of numbers 1 to count, 1 of SESSION 1 with one. */
    private static WatchServer published(int count) {
        WatchServer x = Scene.clients();
        x.subscribe(0, 1, 20, 100, 0);
        x.subscribe(1, 1, 20, 100, 0);
        x.item(0, 0, 1, 1, 8, true, 2, 0);
        for (int k = 1; k <= count; k++) {
            x.publish(0, -1, 0);
            Scene.changeAndTick(x, k);
        }
        x.item(1, 1, 1, 1, 8, true, 2, 0);
        x.publish(1, -1, 0);
        x.activate(0);
        return x;
    }

    private static void minusOne() {
        WatchServer x = published(2);
        for (int n : new int[] {1, 2, 0, -1}) {
            x.publish(0, -1, n);
            CHECK.due("-1 acknowledges nothing", x.acknowledged(), 0);
        }
        CHECK.due("both are KEPT", x.subscription(0, 7), 2);
        WatchServer y = published(2);
        y.publish(0, 0, 1);
        CHECK.due("0 is a SUBSCRIPTION", y.acknowledged(), 1);
        y.publish(0, -2, 1);
        CHECK.due("-2 is none", y.acknowledged(), -5);
    }

    private static void thatOneAlone() {
        WatchServer x = published(5);
        x.publish(0, 0, 3);
        for (int m = 0; m < 5; m++) {
            CHECK.due("KEPT, MESSAGE " + m, x.message(m, 5), m == 2 ? 0 : 1);
        }
        CHECK.due("the other SUBSCRIPTION's", x.subscription(1, 7), 1);
        x.publish(0, 0, 1);
        x.publish(0, 0, 5);
        CHECK.due("the first and the last", x.message(0, 5) + x.message(4, 5), 0);
        CHECK.due("two are KEPT", x.subscription(0, 7), 2);
    }

    private static void acknowledgedFirst() {
        WatchServer x = Scene.watcher(1, 20, 100, 1);
        Scene.changeAndTick(x, 1);
        x.publish(0, 0, 1);
        CHECK.due("number 1 was not yet made", x.acknowledged(), -9);
        CHECK.due("it is KEPT", x.message(0, 5), 1);
        for (int v = 2; v <= 5; v++) {
            Scene.changeAndTick(x, v);
            x.publish(0, -1, 0);
        }
        x.publish(0, 0, 3);
        CHECK.due("number 3 made room before number 6 came", x.message(0, 5), 1);
        CHECK.due("5 are KEPT", x.subscription(0, 7), 5);
    }

    private static void lateForTheLongest() {
        WatchServer x = Scene.clients();
        int[] periods = {4, 3, 2, 2, 1};
        for (int sub = 0; sub < 5; sub++) {
            x.subscribe(sub == 4 ? 1 : 0, periods[sub], 20, 100, 0);
        }
        x.tick(4);
        int[] order = {2, 3, 1, 0};
        for (int m = 0; m < 4; m++) {
            CHECK.due("at once", x.publish(0, -1, 0), 1);
            CHECK.due("for the longest", x.message(m, 0), order[m]);
        }
        CHECK.due("another SESSION's is not asked", x.publish(0, -1, 0), 0);
        CHECK.due("it is LATE still", x.subscription(4, 5), 1);
    }

    /** SUBSCRIPTIONS 0 to 2 of SESSION 0 with MOST 1, whose latest MESSAGES 0 to 2 had MORE; none is LATE. */
    private static WatchServer threeWithMore() {
        WatchServer x = Scene.clients();
        for (int sub = 0; sub < 3; sub++) {
            x.subscribe(0, 4, 20, 100, 1);
            x.item(0, sub, 1, 1, 8, true, 2, 0);
        }
        for (int v = 1; v <= 3; v++) {
            Scene.changeAndTick(x, v);
        }
        x.tick(1);
        for (int sub = 0; sub < 3; sub++) {
            x.publish(0, -1, 0);
        }
        return x;
    }

    private static void lateBeforeMore() {
        WatchServer x = threeWithMore();
        x.subscribe(0, 1, 20, 100, 0);
        x.tick(1);
        int[] due = {3, 0, 0, 0, 1, 1, 1, 2};
        for (int k = 0; k < due.length; k++) {
            CHECK.due("at once", x.publish(0, -1, 0), 1);
            CHECK.due("the LATE one, then by numbers", x.message(3 + k, 0), due[k]);
        }
        WatchServer y = threeWithMore();
        y.transfer(1, 0);
        y.publish(0, -1, 0);
        CHECK.due("not another SESSION's, though it has MORE", y.message(3, 0), 1);
    }

    private static void latestHadMore() {
        WatchServer x = Scene.watcher(4, 20, 100, 2);
        x.change(1, 1);
        x.tick(3);
        CHECK.due("READY, but no MESSAGE yet", x.publish(0, -1, 0), 0);
        CHECK.due("it had two entries, no MORE", x.tick(1), 1);
        Scene.changeAndTick(x, 2);
        CHECK.due("READY, the latest had no MORE", x.publish(0, -1, 0), 0);
        x.change(1, 3);
        x.tick(1);
        x.change(1, 4);
        CHECK.due("three entries", x.tick(2), 1);
        CHECK.due("MORE", x.message(1, 3), 1);
        x.modify(0, 0, 100, 20, 100, 2);
        CHECK.due("READY, the latest had MORE, also when modified", x.publish(0, -1, 0), 1);
        CHECK.due("no MORE then", x.message(2, 3), 0);
        signOfLifeHadNoMore();
    }

    private static void signOfLifeHadNoMore() {
        WatchServer y = threeWithMore();
        y.unsubscribe(0, 1);
        y.unsubscribe(0, 2);
        y.turn(0, 0, false);
        y.tick(80);
        CHECK.due("not READY, LATE", y.publish(0, -1, 0), 1);
        CHECK.due("a sign of life", y.message(3, 2), 0);
        y.turn(0, 0, true);
        CHECK.due("READY", y.subscription(0, 8), 1);
        CHECK.due("the one with MORE is not its latest", y.publish(0, -1, 0), 0);
    }

    private static void thatIsReady() {
        WatchServer x = threeWithMore();
        x.turn(0, 0, false);
        x.publish(0, -1, 0);
        CHECK.due("0 is not ON: 1", x.message(3, 0), 1);
        x.mode(0, 1, 1);
        x.publish(0, -1, 0);
        CHECK.due("1 has nothing in MODE 2: 2", x.message(4, 0), 2);
        x.drop(0, 2);
        CHECK.due("2 has no ITEMS: it waits", x.publish(0, -1, 0), 0);
        x.turn(0, 0, true);
        CHECK.due("0 is READY again", x.publish(0, -1, 0), 1);
        CHECK.due("its MESSAGE", x.message(5, 0), 0);
    }

    private static void atOnce() {
        WatchServer x = Scene.watcher(1, 20, 100, 1);
        Scene.changeAndTick(x, 1);
        Scene.changeAndTick(x, 2);
        CHECK.due("LATE", x.publish(0, -1, 0), 1);
        CHECK.due("one alone, though there is MORE", x.status(6), 1);
        CHECK.due("its TIME is now", x.message(0, 4), 2);
        CHECK.due("its REQUEST is gone", x.sessionOf(0, 2), 0);
        CHECK.due("it is in the MAIL", x.mail(0, 0), 0);
        x.session(1000);
        x.activate(1);
        x.subscribe(1, 100, 20, 100, 0);
        x.publish(1, -1, 0);
        x.publish(1, -1, 0);
        x.transfer(1, 0);
        CHECK.due("MORE, while two wait", x.publish(1, -1, 0), 1);
        CHECK.due("one alone then too", x.status(6), 2);
        CHECK.due("MORE", x.message(1, 3), 1);
        CHECK.due("two wait still", x.sessionOf(1, 2), 2);
    }

    private static void waits() {
        WatchServer x = Scene.watcher(1, 20, 100, 0);
        CHECK.due("READY, neither LATE nor with MORE", x.publish(0, -1, 0), 0);
        CHECK.due("it waits", x.sessionOf(0, 2), 1);
        CHECK.due("no MESSAGE", x.status(6), 0);
        CHECK.due("the TICK answers it", x.tick(1), 1);
        CHECK.due("none waits", x.sessionOf(0, 2), 0);
    }

    private static void sessions() {
        WatchServer x = published(1);
        CHECK.refusesSessions(x, "publish", s -> x.publish(s, -1, 0));
        CHECK.refusesSessions(x, "publish that acknowledges", s -> x.publish(s, 0, 1));
        CHECK.due("it is KEPT still", x.message(0, 5), 1);
        CHECK.due("else it is", x.publish(0, 0, 1), 0);
        WatchServer y = Scene.clients();
        CHECK.refusesSessions(y, "publish without any SUBSCRIPTION", s -> y.publish(s, -1, 0));
    }

    private static void noSubscription() {
        WatchServer x = Scene.clients();
        CHECK.refused(x, "none ever", -9, () -> x.publish(0, -1, 0));
        x.subscribe(1, 100, 1, 100, 0);
        CHECK.refused(x, "another SESSION's alone", -9, () -> x.publish(0, -1, 0));
        x.subscribe(0, 100, 1, 100, 0);
        for (int k = 0; k < 4; k++) {
            x.publish(0, -1, 0);
        }
        x.unsubscribe(0, 1);
        CHECK.refused(x, "no more, and 4 REQUESTS wait", -9, () -> x.publish(0, -1, 0));
        x.transfer(0, 0);
        CHECK.refused(x, "it has one again", -8, () -> x.publish(0, -1, 0));
        x.subscribe(1, 1, 1, 3, 0);
        x.tick(3);
        x.activate(1);
        CHECK.refused(x, "its LIFE was over", -9, () -> x.publish(1, -1, 0));
    }

    private static void fourWait() {
        WatchServer x = Scene.client();
        x.subscribe(0, 100, 1, 100, 0);
        for (int k = 0; k < 3; k++) {
            x.publish(0, -1, 0);
        }
        CHECK.due("the fourth waits", x.publish(0, -1, 0), 0);
        CHECK.refused(x, "a fifth", -8, () -> x.publish(0, -1, 0));
        x.session(1000);
        x.activate(1);
        x.subscribe(1, 1, 1, 100, 0);
        x.tick(1);
        x.transfer(0, 1);
        CHECK.refused(x, "also if one is LATE", -8, () -> x.publish(0, -1, 0));
    }

    private static void nineHundred() {
        WatchServer x = Scene.watcher(1, 20, 100, 0);
        Scene.publish(x, 899);
        CHECK.due("899: it waits", x.publish(0, 0, 899), 0);
        CHECK.due("899: it acknowledges", x.acknowledged(), 1);
        CHECK.due("the 900th", Scene.changeAndTick(x, -1), 1);
        x.activate(0);
        CHECK.refused(x, "900: none waits", -8, () -> x.publish(0, 0, 900));
        CHECK.due("it is KEPT", x.message(899, 5), 1);
        CHECK.due("no REQUEST", x.sessionOf(0, 2), 0);
        x.unsubscribe(0, 0);
        CHECK.refused(x, "no SUBSCRIPTION is told first", -9, () -> x.publish(0, -1, 0));
    }

    private static void refusedOnes() {
        WatchServer x = published(1);
        for (int k = 0; k < 4; k++) {
            x.publish(0, -1, 0);
        }
        CHECK.refused(x, "4 wait", -8, () -> x.publish(0, 0, 1));
        CHECK.due("KEPT still", x.message(0, 5), 1);
        CHECK.due("it can be had again", x.again(0, 0, 1), 0);
        x.tick(20);
        CHECK.due("one was answered: now it is", x.publish(0, 0, 1), 0);
        CHECK.due("KEPT no more", x.message(0, 5), 0);
    }

    private static void latestNotRefused() {
        WatchServer x = published(1);
        x.publish(0, 0, 1);
        CHECK.due("1", x.acknowledged(), 1);
        x.publish(9, 0, 1);
        x.publish(2, 0, 1);
        x.publish(3, 0, 1);
        CHECK.due("refused ones are not the latest", x.acknowledged(), 1);
        x.publish(1, -1, 0);
        CHECK.due("the latest of all SESSIONS", x.acknowledged(), 0);
        CHECK.tells(x, "as often as asked", 0, x::acknowledged);
    }

    private static void wasKept() {
        WatchServer x = published(6);
        x.publish(0, 0, 2);
        CHECK.due("the oldest that is KEPT", x.acknowledged(), 1);
        x.publish(0, 0, 6);
        CHECK.due("the latest", x.acknowledged(), 1);
    }

    private static void noSuchSubscription() {
        WatchServer x = published(1);
        for (int sub : new int[] {2, -2, 20, Integer.MIN_VALUE}) {
            x.publish(0, sub, 1);
            CHECK.due("SUBSCRIPTION " + sub, x.acknowledged(), -5);
        }
        WatchServer y = published(1);
        y.subscribe(0, 100, 1, 100, 0);
        y.unsubscribe(0, 0);
        y.publish(0, 0, 1);
        CHECK.due("no more", y.acknowledged(), -5);
        y.publish(0, Integer.MAX_VALUE, 1);
        CHECK.due("the largest", y.acknowledged(), -5);
        CHECK.due("this is no REFUSAL", y.status(15), 0);
        CHECK.due("the REQUESTS wait all the same", y.sessionOf(0, 2), 2);
    }

    private static void anotherSession() {
        WatchServer x = published(1);
        x.publish(0, 1, 1);
        CHECK.due("the other one's", x.acknowledged(), -5);
        CHECK.due("it is KEPT", x.subscription(1, 7), 1);
        x.transfer(0, 1);
        x.publish(0, 1, 1);
        CHECK.due("its own now", x.acknowledged(), 1);
    }

    private static void notKept() {
        WatchServer x = published(6);
        for (int n : new int[] {1, 7, 0, Integer.MIN_VALUE}) {
            x.publish(0, 0, n);
            CHECK.due("number " + n, x.acknowledged(), -9);
        }
        CHECK.due("5 are KEPT still", x.subscription(0, 7), 5);
        WatchServer y = published(2);
        y.publish(0, 0, 2);
        y.publish(0, 0, 2);
        CHECK.due("twice", y.acknowledged(), -9);
        y.publish(0, 0, Integer.MAX_VALUE);
        CHECK.due("the largest", y.acknowledged(), -9);
        CHECK.due("this is no REFUSAL", y.status(19), 0);
    }

    private static void nothingAsked() {
        WatchServer x = published(1);
        x.publish(0, 0, 9);
        CHECK.due("-9", x.acknowledged(), -9);
        x.publish(0, -1, 1);
        CHECK.due("nothing", x.acknowledged(), 0);
        CHECK.due("it is KEPT", x.message(0, 5), 1);
    }

    private static void withoutOne() {
        CHECK.due("new", new WatchServer().acknowledged(), 0);
        WatchServer x = Scene.clients();
        x.publish(9, 0, 1);
        x.publish(0, 0, 1);
        CHECK.due("refused ones alone", x.acknowledged(), 0);
    }
}

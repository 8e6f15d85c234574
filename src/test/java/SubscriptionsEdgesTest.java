/** The boundary cases that the document names of SUBSCRIPTIONS (Terms, promises 13 to 17 and 28), a test each. */
public final class SubscriptionsEdgesTest {
    private static final Check CHECK = new Check();
    private static final String TERMS = "Terms";
    private static final int[] NONE_SUCH = {2, -1, 20, Integer.MIN_VALUE, Integer.MAX_VALUE};
    /** PERIOD, KEEP, LIFE, MOST, one of them beyond an edge. */
    private static final int[][] WRONG = {{0, 1, 3, 0}, {101, 1, 3, 0}, {1, 0, 3, 0}, {1, 21, 3, 0}, {1, 1, 2, 0},
        {1, 1, 101, 0}, {1, 1, 3, -1}, {1, 1, 3, 11}, {-1, 1, 3, 0}, {1, -1, 3, 0}, {1, 1, 0, 0},
        {Integer.MIN_VALUE, 1, 3, 0}, {1, Integer.MIN_VALUE, 3, 0}, {1, 1, Integer.MIN_VALUE, 0},
        {1, 1, 3, Integer.MIN_VALUE}, {Integer.MAX_VALUE, 1, 3, 0}, {1, Integer.MAX_VALUE, 3, 0},
        {1, 1, Integer.MAX_VALUE, 0}, {1, 1, 3, Integer.MAX_VALUE}};

    public static void main(String[] args) {
        CHECK.sentence(TERMS, "SUBSCRIPTIONS have numbers from 0 on", SubscriptionsEdgesTest::fromZeroOn);
        CHECK.sentence(TERMS, "(20 at most are ever made)", SubscriptionsEdgesTest::twentyEver);
        CHECK.sentence(TERMS, "of a SESSION, BORN at a TIME", SubscriptionsEdgesTest::bornLater);
        CHECK.sentence(TERMS, "with a PERIOD (1 .. 100)", SubscriptionsEdgesTest::periods);
        CHECK.sentence(TERMS, "a KEEP (1 .. 20)", SubscriptionsEdgesTest::keeps);
        CHECK.sentence(TERMS, "a LIFE (3 .. 100)", SubscriptionsEdgesTest::lives);
        CHECK.sentence(TERMS, "a MOST (0 .. 10)", SubscriptionsEdgesTest::mosts);
        CHECK.sentence(TERMS, "NEXT (the number of its next message, 1 at first)", SubscriptionsEdgesTest::nextAtFirst);
        CHECK.sentence(TERMS, "KEEP LEFT and LIFE LEFT (KEEP and LIFE at first)", SubscriptionsEdgesTest::leftAtFirst);
        CHECK.sentence(TERMS, "whether it has SENT something", SubscriptionsEdgesTest::sentAtFirst);
        CHECK.sentence(TERMS, "whether it is LATE, since which TIME", SubscriptionsEdgesTest::lateSince);
        CHECK.sentence(TERMS, "(and in which order, of one TIME)", SubscriptionsEdgesTest::lateInOneTime);
        making();
        moving();
        ending();
        CHECK.done();
    }

    private static void making() {
        String thirteen = "Promise 13: subscribe";
        CHECK.sentence(thirteen, "a SUBSCRIPTION, ON: its number.", SubscriptionsEdgesTest::isOn);
        CHECK.sentence(thirteen, "-1; -2; -3;", SubscriptionsEdgesTest::subscribeSessions);
        CHECK.sentence(thirteen, "-7;", SubscriptionsEdgesTest::subscribeNumbers);
        CHECK.sentence(thirteen, "-8.", SubscriptionsEdgesTest::subscribeRoom);
        String fourteen = "Promise 14: modify";
        CHECK.sentence(fourteen, "other PERIOD, KEEP, LIFE, MOST", SubscriptionsEdgesTest::modifies);
        CHECK.sentence(fourteen, "BORN is now", SubscriptionsEdgesTest::bornNow);
        CHECK.sentence(fourteen, "KEEP LEFT, LIFE LEFT as KEEP, LIFE", SubscriptionsEdgesTest::leftAnew);
        CHECK.sentence(fourteen, "-1; -2; -3;", SubscriptionsEdgesTest::modifySessions);
        CHECK.sentence(fourteen, "-5;", SubscriptionsEdgesTest::modifyOthers);
        CHECK.sentence(fourteen, "-7.", SubscriptionsEdgesTest::modifyNumbers);
    }

    private static void moving() {
        String fifteen = "Promise 15: turn";
        CHECK.sentence(fifteen, "ON, or not: 1 if that is new, else 0.", SubscriptionsEdgesTest::turns);
        CHECK.sentence(fifteen, "LIFE LEFT is LIFE.", SubscriptionsEdgesTest::turnRenewsLife);
        CHECK.sentence(fifteen, "-1; -2; -3;", SubscriptionsEdgesTest::turnSessions);
        CHECK.sentence(fifteen, "-5.", SubscriptionsEdgesTest::turnOthers);
        String sixteen = "Promise 16: transfer";
        CHECK.sentence(sixteen, "a SUBSCRIPTION of any SESSION is this one's: 1", SubscriptionsEdgesTest::transfers);
        CHECK.sentence(sixteen, "(0 if it was)", SubscriptionsEdgesTest::transfersToItself);
        CHECK.sentence(sixteen, "LIFE LEFT is LIFE;", SubscriptionsEdgesTest::transferRenewsLife);
        CHECK.sentence(sixteen, "the old one's REQUESTS stay its own.", SubscriptionsEdgesTest::requestsStay);
        CHECK.sentence(sixteen, "-1; -2; -3;", SubscriptionsEdgesTest::transferSessions);
        CHECK.sentence(sixteen, "-5 there is none.", SubscriptionsEdgesTest::transferNone);
    }

    private static void ending() {
        String seventeen = "Promise 17: unsubscribe";
        CHECK.sentence(seventeen, "a SUBSCRIPTION, its ITEMS and KEPT MESSAGES are no more: 1.",
            SubscriptionsEdgesTest::unsubscribes);
        CHECK.sentence(seventeen, "-1; -2; -3;", SubscriptionsEdgesTest::unsubscribeSessions);
        CHECK.sentence(seventeen, "-5.", SubscriptionsEdgesTest::unsubscribeOthers);
        String last = "Promise 28: subscription";
        CHECK.sentence(last, "Of a SUBSCRIPTION that there is", SubscriptionsEdgesTest::shownWhileThere);
        CHECK.sentence(last, "-9: none such", SubscriptionsEdgesTest::shownNone);
        CHECK.sentence(last, "another what.", SubscriptionsEdgesTest::shownWhat);
    }

    private static void fromZeroOn() {
        WatchServer x = Scene.clients();
        for (int sub = 0; sub < 3; sub++) {
            CHECK.due("subscribe", x.subscribe(sub % 2, 1, 5 + sub, 3, 0), sub);
        }
        CHECK.due("the number 0 is the first one's", x.subscription(0, 3), 5);
        CHECK.due("the number 2 is the third one's", x.subscription(2, 3), 7);
        CHECK.due("a 3 is none", x.subscription(3, 3), -9);
    }

    private static void twentyEver() {
        WatchServer x = Scene.clients();
        for (int sub = 0; sub < 19; sub++) {
            x.subscribe(sub % 2, 100, 1, 3, 0);
        }
        x.unsubscribe(0, 0);
        CHECK.due("the 20th", x.subscribe(0, 100, 1, 3, 0), 19);
        CHECK.due("a 21st, though one is no more", x.subscribe(0, 100, 1, 3, 0), -8);
        CHECK.due("nor of another SESSION", x.subscribe(1, 100, 1, 3, 0), -8);
        CHECK.due("19 are", x.status(4), 19);
        CHECK.due("the 20th is there", x.turn(0, 19, true), 0);
        CHECK.due("the 21st is not", x.turn(0, 20, true), -5);
    }

    private static void bornLater() {
        WatchServer x = Scene.clients();
        x.tick(2);
        x.subscribe(1, 3, 20, 100, 0);
        CHECK.due("its SESSION", x.subscription(0, 0), 1);
        x.tick(1);
        CHECK.due("at TIME 3 it is not over", x.subscription(0, 5), 0);
        x.tick(2);
        CHECK.due("at TIME 5 it is", x.subscription(0, 5), 1);
    }

    private static void periods() {
        WatchServer x = Scene.client();
        CHECK.due("0", x.subscribe(0, 0, 1, 3, 0), -7);
        CHECK.due("1", x.subscribe(0, 1, 1, 100, 0), 0);
        CHECK.due("100", x.subscribe(0, 100, 1, 100, 0), 1);
        CHECK.due("101", x.subscribe(0, 101, 1, 3, 0), -7);
        x.tick(1);
        CHECK.due("1: each TICK", x.subscription(0, 4), 99);
        x.tick(1);
        CHECK.due("1: each TICK again", x.subscription(0, 4), 98);
        x.tick(97);
        CHECK.due("100: not after 99", x.subscription(1, 4), 100);
        x.tick(1);
        CHECK.due("100: after 100", x.subscription(1, 4), 99);
    }

    private static void keeps() {
        WatchServer x = Scene.client();
        CHECK.due("0", x.subscribe(0, 1, 0, 3, 0), -7);
        CHECK.due("1", x.subscribe(0, 1, 1, 100, 0), 0);
        CHECK.due("20", x.subscribe(0, 1, 20, 100, 0), 1);
        CHECK.due("21", x.subscribe(0, 1, 21, 3, 0), -7);
        x.publish(0, -1, 0);
        x.publish(0, -1, 0);
        CHECK.due("each has SENT", x.tick(1), 2);
        x.tick(1);
        CHECK.due("1: the next PERIOD asks for one", x.subscription(0, 5), 1);
        x.tick(18);
        CHECK.due("20: not the 19th", x.subscription(1, 5), 0);
        x.tick(1);
        CHECK.due("20: the 20th", x.subscription(1, 5), 1);
    }

    private static void lives() {
        WatchServer x = Scene.client();
        CHECK.due("2", x.subscribe(0, 1, 1, 2, 0), -7);
        CHECK.due("3", x.subscribe(0, 1, 1, 3, 0), 0);
        CHECK.due("100", x.subscribe(0, 1, 1, 100, 0), 1);
        CHECK.due("101", x.subscribe(0, 1, 1, 101, 0), -7);
        x.tick(2);
        CHECK.due("3: SHORT twice", x.subscription(0, 4), 1);
        x.tick(1);
        CHECK.due("3: SHORT three times", x.subscription(0, 4), -9);
        x.tick(96);
        CHECK.due("100: SHORT 99 times", x.subscription(1, 4), 1);
        x.tick(1);
        CHECK.due("100: SHORT 100 times", x.subscription(1, 4), -9);
    }

    private static void mosts() {
        WatchServer x = Scene.client();
        CHECK.due("-1", x.subscribe(0, 1, 1, 3, -1), -7);
        CHECK.due("0", x.subscribe(0, 1, 1, 100, 0), 0);
        CHECK.due("10", x.subscribe(0, 1, 1, 100, 10), 1);
        CHECK.due("11", x.subscribe(0, 1, 1, 3, 11), -7);
        for (int i = 0; i < 22; i++) {
            x.item(0, i % 2, 1, 1, 1, true, 2, 0);
        }
        x.publish(0, -1, 0);
        x.publish(0, -1, 0);
        x.tick(1);
        CHECK.due("0: all 11", x.message(0, 2), 11);
        CHECK.due("10: 10 of 11", x.message(1, 2), 10);
    }

    private static void nextAtFirst() {
        WatchServer x = Scene.watcher(1, 1, 100, 0);
        CHECK.due("NEXT", x.subscription(0, 2), 1);
        x.publish(0, -1, 0);
        x.tick(1);
        CHECK.due("the first one's number", x.message(0, 1), 1);
        CHECK.due("NEXT then", x.subscription(0, 2), 2);
    }

    private static void leftAtFirst() {
        WatchServer x = Scene.client();
        x.subscribe(0, 1, 1, 3, 0);
        x.subscribe(0, 1, 20, 100, 0);
        CHECK.due("KEEP LEFT, smallest", x.subscription(0, 3), 1);
        CHECK.due("LIFE LEFT, smallest", x.subscription(0, 4), 3);
        CHECK.due("KEEP LEFT, largest", x.subscription(1, 3), 20);
        CHECK.due("LIFE LEFT, largest", x.subscription(1, 4), 100);
    }

    private static void sentAtFirst() {
        WatchServer x = Scene.client();
        x.subscribe(0, 1, 20, 100, 0);
        x.publish(0, -1, 0);
        x.publish(0, -1, 0);
        CHECK.due("not SENT: a sign of life, whatever KEEP is", x.tick(1), 1);
        CHECK.due("SENT: none till KEEP is over", x.tick(19), 0);
        CHECK.due("KEEP is over", x.tick(1), 1);
    }

    private static void lateSince() {
        WatchServer x = Scene.client();
        x.subscribe(0, 3, 20, 100, 0);
        x.subscribe(0, 2, 20, 100, 0);
        CHECK.due("not LATE at first", x.subscription(0, 5) + x.subscription(1, 5), 0);
        x.tick(6);
        x.publish(0, -1, 0);
        CHECK.due("LATE since 2, not since 3", x.message(0, 0), 1);
        x.publish(0, -1, 0);
        CHECK.due("then that since 3", x.message(1, 0), 0);
    }

    private static void lateInOneTime() {
        WatchServer x = Scene.clients();
        for (int sub = 0; sub < 3; sub++) {
            x.subscribe(sub == 0 ? 1 : 0, 2, 20, 100, 0);
        }
        x.tick(2);
        x.transfer(0, 0);
        for (int m = 0; m < 3; m++) {
            x.publish(0, -1, 0);
            CHECK.due("in the order of one TICK", x.message(m, 0), m);
        }
    }

    private static void isOn() {
        WatchServer x = Scene.client();
        CHECK.due("its number", x.subscribe(0, 1, 1, 3, 0), 0);
        CHECK.due("ON", x.subscription(0, 1), 1);
        CHECK.due("ON is nothing new", x.turn(0, 0, true), 0);
    }

    private static void subscribeSessions() {
        WatchServer x = Scene.clients();
        CHECK.refusesSessions(x, "subscribe", s -> x.subscribe(s, 1, 1, 3, 0));
        CHECK.refusesSessions(x, "subscribe, all wrong", s -> x.subscribe(s, 0, 0, 0, -1));
        CHECK.due("else it is made", x.subscribe(0, 1, 1, 3, 0), 0);
    }

    private static void subscribeNumbers() {
        WatchServer x = Scene.client();
        for (int[] n : WRONG) {
            CHECK.refused(x, "subscribe " + n[0] + " " + n[1] + " " + n[2] + " " + n[3], -7,
                () -> x.subscribe(0, n[0], n[1], n[2], n[3]));
        }
        CHECK.due("smallest", x.subscribe(0, 1, 1, 3, 0), 0);
        CHECK.due("largest", x.subscribe(0, 100, 20, 100, 10), 1);
    }

    private static void subscribeRoom() {
        WatchServer x = Scene.client();
        for (int sub = 0; sub < 20; sub++) {
            x.subscribe(0, 100, 1, 3, 0);
        }
        CHECK.refused(x, "one more", -8, () -> x.subscribe(0, 100, 1, 3, 0));
        CHECK.refused(x, "the number is told first", -7, () -> x.subscribe(0, 0, 1, 3, 0));
        x.session(1000);
        CHECK.refused(x, "and the SESSION before it", -3, () -> x.subscribe(1, 0, 1, 3, 0));
    }

    private static void modifies() {
        WatchServer x = Scene.watcher(100, 20, 100, 1);
        x.change(1, 5);
        x.tick(1);
        CHECK.due("modify", x.modify(0, 0, 2, 1, 3, 0), 1);
        CHECK.due("to the same", x.modify(0, 0, 2, 1, 3, 0), 1);
        x.publish(0, -1, 0);
        CHECK.due("PERIOD: not after 1", x.tick(1), 0);
        CHECK.due("PERIOD: after 2", x.tick(1), 1);
        CHECK.due("MOST: all", x.message(0, 2), 2);
        CHECK.due("KEEP", x.subscription(0, 3), 1);
        x.tick(4);
        CHECK.due("LIFE: SHORT twice", x.subscription(0, 4), 1);
        x.tick(2);
        CHECK.due("LIFE: it is no more", x.subscription(0, 4), -9);
    }

    private static void bornNow() {
        WatchServer x = Scene.client();
        x.subscribe(0, 4, 20, 100, 0);
        x.tick(3);
        x.modify(0, 0, 4, 20, 100, 0);
        x.tick(1);
        CHECK.due("not at TIME 4", x.subscription(0, 5), 0);
        x.tick(2);
        CHECK.due("nor at 6", x.subscription(0, 5), 0);
        x.tick(1);
        CHECK.due("but at 7", x.subscription(0, 5), 1);
    }

    private static void leftAnew() {
        WatchServer x = Scene.client();
        x.subscribe(0, 1, 3, 10, 0);
        x.publish(0, -1, 0);
        x.tick(5);
        CHECK.due("KEEP LEFT before", x.subscription(0, 3), -1);
        CHECK.due("LIFE LEFT before", x.subscription(0, 4), 8);
        x.modify(0, 0, 1, 20, 100, 0);
        CHECK.due("KEEP LEFT is the new KEEP", x.subscription(0, 3), 20);
        CHECK.due("LIFE LEFT is the new LIFE", x.subscription(0, 4), 100);
        CHECK.due("LATE still", x.subscription(0, 5), 1);
        CHECK.due("NEXT stays", x.subscription(0, 2), 1);
        x.tick(1);
        CHECK.due("it has SENT, as before", x.subscription(0, 3), 19);
    }

    /** Scene.clients() with SUBSCRIPTION 0 of SESSION 0, 1 of SESSION 1, and 2 that is no more; each LATE. */
    private static WatchServer twoOwners() {
        WatchServer x = Scene.clients();
        x.subscribe(0, 1, 3, 10, 0);
        x.subscribe(1, 1, 3, 10, 0);
        x.subscribe(0, 1, 3, 10, 0);
        x.item(0, 0, 1, 1, 8, true, 2, 0);
        x.unsubscribe(0, 2);
        x.tick(2);
        x.activate(0);
        x.activate(1);
        return x;
    }

    private static void modifySessions() {
        WatchServer x = twoOwners();
        CHECK.refusesSessions(x, "modify", s -> x.modify(s, 0, 1, 1, 3, 0));
        CHECK.refusesSessions(x, "modify, all wrong", s -> x.modify(s, 9, 0, 0, 0, -1));
        CHECK.due("else it is", x.modify(0, 0, 1, 1, 3, 0), 1);
    }

    private static void modifyOthers() {
        WatchServer x = twoOwners();
        for (int sub : NONE_SUCH) {
            CHECK.refused(x, "SUBSCRIPTION " + sub, -5, () -> x.modify(0, sub, 1, 1, 3, 0));
        }
        CHECK.refused(x, "another's", -5, () -> x.modify(0, 1, 1, 1, 3, 0));
        CHECK.refused(x, "another's before the number", -5, () -> x.modify(1, 0, 0, 1, 3, 0));
    }

    private static void modifyNumbers() {
        WatchServer x = twoOwners();
        for (int[] n : WRONG) {
            CHECK.refused(x, "modify " + n[0] + " " + n[1] + " " + n[2] + " " + n[3], -7,
                () -> x.modify(0, 0, n[0], n[1], n[2], n[3]));
        }
        x.tick(1);
        CHECK.due("its PERIOD is as it was", x.subscription(0, 4), 7);
        x.publish(0, -1, 0);
        CHECK.due("its KEEP too", x.subscription(0, 3), 3);
        CHECK.due("its LIFE too", x.subscription(0, 4), 10);
    }

    private static void turns() {
        WatchServer x = Scene.watcher(100, 1, 3, 0);
        CHECK.due("ON again", x.turn(0, 0, true), 0);
        CHECK.due("not ON", x.turn(0, 0, false), 1);
        CHECK.due("it is not", x.subscription(0, 1), 0);
        CHECK.due("not ON again", x.turn(0, 0, false), 0);
        CHECK.due("it is not still", x.subscription(0, 1), 0);
        CHECK.due("ON", x.turn(0, 0, true), 1);
        CHECK.due("it is", x.subscription(0, 1), 1);
    }

    private static void turnRenewsLife() {
        WatchServer x = twoOwners();
        CHECK.due("LIFE LEFT before", x.subscription(0, 4), 8);
        x.turn(0, 0, true);
        CHECK.due("also if it is nothing new", x.subscription(0, 4), 10);
        x.tick(1);
        x.turn(0, 0, false);
        CHECK.due("if it is new", x.subscription(0, 4), 10);
        CHECK.due("LATE still", x.subscription(0, 5), 1);
        CHECK.due("the other one's is as it was", x.subscription(1, 4), 7);
    }

    private static void turnSessions() {
        WatchServer x = twoOwners();
        CHECK.refusesSessions(x, "turn", s -> x.turn(s, 0, false));
        CHECK.refusesSessions(x, "turn of none", s -> x.turn(s, 9, false));
        CHECK.due("else it is", x.turn(0, 0, false), 1);
    }

    private static void turnOthers() {
        WatchServer x = twoOwners();
        for (int sub : NONE_SUCH) {
            CHECK.refused(x, "SUBSCRIPTION " + sub, -5, () -> x.turn(0, sub, false));
        }
        CHECK.refused(x, "another's", -5, () -> x.turn(0, 1, false));
        CHECK.refused(x, "another's, ON as it is", -5, () -> x.turn(1, 0, true));
    }

    private static void transfers() {
        WatchServer x = twoOwners();
        x.publish(0, -1, 0);
        CHECK.due("another's", x.transfer(1, 0), 1);
        CHECK.due("its SESSION", x.subscription(0, 0), 1);
        CHECK.due("the old one has none", x.sessionOf(0, 3), 0);
        CHECK.due("this one has two", x.sessionOf(1, 3), 2);
        CHECK.due("its ITEMS are this one's", x.mode(1, 0, 1), 2);
        CHECK.due("and not the old one's", x.drop(0, 0), -6);
        CHECK.due("its KEPT MESSAGE is this one's", x.again(1, 0, 1), 0);
        CHECK.due("back again", x.transfer(0, 0), 1);
        CHECK.due("its SESSION again", x.subscription(0, 0), 0);
    }

    private static void transfersToItself() {
        WatchServer x = twoOwners();
        CHECK.due("its own", x.transfer(0, 0), 0);
        CHECK.due("its SESSION", x.subscription(0, 0), 0);
        CHECK.due("how many", x.sessionOf(0, 3), 1);
    }

    private static void transferRenewsLife() {
        WatchServer x = twoOwners();
        CHECK.due("LIFE LEFT before", x.subscription(0, 4), 8);
        x.transfer(0, 0);
        CHECK.due("also if it was its own", x.subscription(0, 4), 10);
        x.tick(1);
        x.transfer(1, 0);
        CHECK.due("if it was another's", x.subscription(0, 4), 10);
        CHECK.due("LATE still", x.subscription(0, 5), 1);
        CHECK.due("KEEP LEFT as it was", x.subscription(0, 3), 3);
    }

    private static void requestsStay() {
        WatchServer x = Scene.clients();
        x.subscribe(0, 2, 20, 100, 0);
        x.publish(0, -1, 0);
        x.publish(0, -1, 0);
        x.transfer(1, 0);
        CHECK.due("the old one's", x.sessionOf(0, 2), 2);
        CHECK.due("this one's", x.sessionOf(1, 2), 0);
        CHECK.due("they do not answer for it", x.tick(2), 0);
        CHECK.due("it is LATE", x.subscription(0, 5), 1);
        x.subscribe(0, 1, 20, 100, 0);
        CHECK.due("but for the old one's", x.tick(1), 1);
        CHECK.due("which has it in its MAIL", x.sessionOf(0, 4), 1);
    }

    private static void transferSessions() {
        WatchServer x = twoOwners();
        CHECK.refusesSessions(x, "transfer", s -> x.transfer(s, 0));
        CHECK.refusesSessions(x, "transfer of none", s -> x.transfer(s, 9));
        CHECK.due("else it is", x.transfer(1, 0), 1);
    }

    private static void transferNone() {
        WatchServer x = twoOwners();
        for (int sub : NONE_SUCH) {
            CHECK.refused(x, "SUBSCRIPTION " + sub, -5, () -> x.transfer(0, sub));
        }
        x.close(1);
        CHECK.refused(x, "that of a CLOSED SESSION", -5, () -> x.transfer(0, 1));
    }

    private static void unsubscribes() {
        WatchServer x = Scene.watcher(1, 20, 100, 1);
        x.item(0, 0, 2, 1, 1, true, 1, 0);
        x.subscribe(0, 1, 20, 100, 0);
        x.item(0, 1, 1, 1, 1, true, 2, 0);
        for (int k = 0; k < 3; k++) {
            x.publish(0, -1, 0);
        }
        x.tick(1);
        CHECK.due("both are KEPT", x.message(0, 5) + x.message(1, 5), 2);
        CHECK.due("unsubscribe", x.unsubscribe(0, 0), 1);
        CHECK.due("it is no more", x.subscription(0, 0), -9);
        CHECK.due("its first ITEM", x.itemOf(0, 0), -9);
        CHECK.due("its second ITEM", x.itemOf(1, 0), -9);
        CHECK.due("KEPT no more", x.message(0, 5), 0);
        x.publish(0, 0, 1);
        CHECK.due("nor can it be acknowledged", x.acknowledged(), -5);
        CHECK.due("the MESSAGE is in the MAIL", x.mail(0, 0), 0);
        CHECK.due("the other one stays", x.status(4), 1);
        CHECK.due("its ITEM stays", x.status(5), 1);
        CHECK.due("its MESSAGE is KEPT", x.message(1, 5), 1);
        x.change(1, 9);
        CHECK.due("nothing comes of it", x.tick(1), 1);
        CHECK.due("but of the other one", x.message(2, 0), 1);
    }

    private static void unsubscribeSessions() {
        WatchServer x = twoOwners();
        CHECK.refusesSessions(x, "unsubscribe", s -> x.unsubscribe(s, 0));
        CHECK.refusesSessions(x, "unsubscribe of none", s -> x.unsubscribe(s, 9));
        CHECK.due("else it is", x.unsubscribe(0, 0), 1);
    }

    private static void unsubscribeOthers() {
        WatchServer x = twoOwners();
        for (int sub : NONE_SUCH) {
            CHECK.refused(x, "SUBSCRIPTION " + sub, -5, () -> x.unsubscribe(0, sub));
        }
        CHECK.refused(x, "another's", -5, () -> x.unsubscribe(0, 1));
        x.unsubscribe(0, 0);
        CHECK.refused(x, "twice", -5, () -> x.unsubscribe(0, 0));
    }

    private static void shownWhileThere() {
        WatchServer x = twoOwners();
        int[] due = {0, 1, 1, 3, 8, 1, 1, 0, 1};
        for (int what = 0; what <= 8; what++) {
            CHECK.due("what " + what, x.subscription(0, what), due[what]);
        }
        x.publish(0, -1, 0);
        x.turn(0, 0, false);
        x.item(0, 0, 1, 1, 1, true, 2, 0);
        int[] then = {0, 0, 2, 3, 10, 0, 2, 1, 0};
        for (int k = 0; k <= 8; k++) {
            int what = k;
            CHECK.tells(x, "then, what " + what, then[what], () -> x.subscription(0, what));
        }
        x.unsubscribe(0, 0);
        for (int what = 0; what <= 8; what++) {
            CHECK.due("no more, what " + what, x.subscription(0, what), -9);
        }
    }

    private static void shownNone() {
        WatchServer x = twoOwners();
        for (int sub : NONE_SUCH) {
            CHECK.tells(x, "SUBSCRIPTION " + sub, -9, () -> x.subscription(sub, 0));
        }
    }

    private static void shownWhat() {
        WatchServer x = twoOwners();
        for (int what : new int[] {9, -1, Integer.MIN_VALUE, Integer.MAX_VALUE}) {
            CHECK.tells(x, "what " + what, -9, () -> x.subscription(0, what));
        }
    }
}

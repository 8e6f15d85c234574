/** The boundary cases that the document names of MESSAGES and MAIL (Terms, promises 23 to 26), a test each. */
public final class MessagesEdgesTest {
    private static final Check CHECK = new Check();
    private static final String TERMS = "Terms";
    private static final int[] WRONG_WHATS = {-1, Integer.MIN_VALUE, Integer.MAX_VALUE};

    public static void main(String[] args) {
        CHECK.sentence(TERMS, "A MESSAGE (numbered from 0 on,", MessagesEdgesTest::fromZeroOn);
        CHECK.sentence(TERMS, "900 at most are ever made)", MessagesEdgesTest::nineHundredEver);
        CHECK.sentence(TERMS, "comes behind the MAIL of its SESSION", MessagesEdgesTest::behindTheMail);
        CHECK.sentence(TERMS, "VALUES, if it is READY: its number NEXT, which is 1 more then",
            MessagesEdgesTest::nextIsOneMore);
        CHECK.sentence(TERMS, "entries of its ITEMS in MODE 2, by numbers", MessagesEdgesTest::itemsByNumbers);
        CHECK.sentence(TERMS, "of each from the first one on", MessagesEdgesTest::fromTheFirstOn);
        CHECK.sentence(TERMS, "MOST together", MessagesEdgesTest::mostTogether);
        CHECK.sentence(TERMS, "(0: all;", MessagesEdgesTest::allOfThem);
        CHECK.sentence(TERMS, "never more than 40)", MessagesEdgesTest::neverMoreThanForty);
        CHECK.sentence(TERMS, "they leave the QUEUES", MessagesEdgesTest::leaveTheQueues);
        CHECK.sentence(TERMS, "MORE, if entries are left", MessagesEdgesTest::more);
        CHECK.sentence(TERMS, "it is KEPT till acknowledged", MessagesEdgesTest::keptTillAcknowledged);
        CHECK.sentence(TERMS, "the 5 latest ones of each SUBSCRIPTION at most", MessagesEdgesTest::fiveLatest);
        CHECK.sentence(TERMS, "Else a sign of life: its number NEXT, which stays, no entries, not KEPT.",
            MessagesEdgesTest::signOfLife);
        CHECK.sentence(TERMS, "It answers the first REQUEST of the SESSION, which is gone then.",
            MessagesEdgesTest::answersOne);
        CHECK.sentence(TERMS, "SENT is so, KEEP LEFT is KEEP, LIFE LEFT is LIFE, it is LATE no more.",
            MessagesEdgesTest::whatIsAnew);
        again();
        views();
        CHECK.done();
    }

    private static void again() {
        String again = "Promise 23: again";
        CHECK.sentence(again, "a KEPT MESSAGE once more, behind the SESSION's MAIL", MessagesEdgesTest::againBehind);
        CHECK.sentence(again, "the MESSAGE's number (it is the same one).", MessagesEdgesTest::againTheSame);
        CHECK.sentence(again, "LIFE LEFT is LIFE.", MessagesEdgesTest::againRenewsLife);
        CHECK.sentence(again, "-1; -2; -3;", MessagesEdgesTest::againSessions);
        CHECK.sentence(again, "-5;", MessagesEdgesTest::againOthers);
        CHECK.sentence(again, "-9;", MessagesEdgesTest::againNotKept);
        CHECK.sentence(again, "-8 the MAIL has 200 of them.", MessagesEdgesTest::againRoom);
        CHECK.sentence(again, "(More MAIL than 200 there may be by MESSAGES that are made.)",
            MessagesEdgesTest::moreMail);
    }

    private static void views() {
        String mail = "Promise 24: mail";
        CHECK.sentence(mail, "The i-th MESSAGE of a SESSION's MAIL (CLOSED or not)", MessagesEdgesTest::mailOfAny);
        CHECK.sentence(mail, "-9 if there is none.", MessagesEdgesTest::noMail);
        CHECK.sentence(mail, "-1 (no REFUSAL is counted here", MessagesEdgesTest::mailOfNobody);
        CHECK.sentence(mail, "nor in what follows).", MessagesEdgesTest::viewsCountNothing);
        String message = "Promise 25: message";
        CHECK.sentence(message, "Of a MESSAGE: 0 its SUBSCRIPTION, 1 its number, 2 how many entries",
            MessagesEdgesTest::parts);
        CHECK.sentence(message, "4 the TIME", MessagesEdgesTest::timeOfMaking);
        CHECK.sentence(message, "3 1 if there was MORE", MessagesEdgesTest::thereWasMore);
        CHECK.sentence(message, "5 1 if it is KEPT now", MessagesEdgesTest::keptNow);
        CHECK.sentence(message, "-9 no such MESSAGE, or what.", MessagesEdgesTest::messageNone);
        String entry = "Promise 26: entry";
        CHECK.sentence(entry, "Of entry i of a MESSAGE: 0 its value, 1 its ITEM, 2 the TIME of its sampling",
            MessagesEdgesTest::entries);
        CHECK.sentence(entry, "3 1 if it has the BIT", MessagesEdgesTest::entryBit);
        CHECK.sentence(entry, "-9 no such MESSAGE, entry, what.", MessagesEdgesTest::entryNone);
    }

    private static void fromZeroOn() {
        WatchServer x = Scene.clients();
        CHECK.due("none yet", x.message(0, 0), -9);
        for (int sub = 0; sub < 2; sub++) {
            x.subscribe(1 - sub, 1, 20, 100, 0);
            x.publish(1 - sub, -1, 0);
        }
        CHECK.due("two", x.tick(1), 2);
        CHECK.due("0 is the first one's", x.message(0, 0), 0);
        CHECK.due("1 is the second one's", x.message(1, 0), 1);
        CHECK.due("2 is none", x.message(2, 0), -9);
        CHECK.due("each in its MAIL", x.mail(1, 0) * 10 + x.mail(0, 0), 1);
    }

    private static void nineHundredEver() {
        WatchServer x = Scene.watcher(1, 20, 100, 0);
        Scene.publish(x, 899);
        CHECK.due("899", x.status(6), 899);
        Scene.changeAndTick(x, -1);
        CHECK.due("the 900th", x.publish(0, -1, 0), 1);
        CHECK.due("its number", x.mail(0, 899), 899);
        Scene.changeAndTick(x, -2);
        CHECK.due("a 901st", x.publish(0, -1, 0), -8);
        CHECK.due("MESSAGES", x.status(6), 900);
        CHECK.due("the 900th is there", x.message(899, 2), 1);
        CHECK.due("the 901st is not", x.message(900, 2), -9);
    }

    private static void behindTheMail() {
        WatchServer x = Scene.clients();
        x.subscribe(0, 1, 20, 100, 0);
        x.item(0, 0, 1, 1, 8, true, 2, 0);
        x.publish(0, -1, 0);
        x.tick(1);
        x.again(0, 0, 1);
        x.publish(0, -1, 0);
        Scene.changeAndTick(x, 1);
        int[] due = {0, 0, 1, -9};
        for (int i = 0; i < due.length; i++) {
            CHECK.due("MAIL " + i, x.mail(0, i), due[i]);
        }
        x.transfer(1, 0);
        x.publish(1, -1, 0);
        Scene.changeAndTick(x, 2);
        CHECK.due("of the SESSION that has it now", x.mail(1, 0), 2);
        CHECK.due("not of the old one", x.mail(0, 3), -9);
    }

    private static void nextIsOneMore() {
        WatchServer x = Scene.watcher(1, 1, 100, 0);
        for (int k = 1; k <= 3; k++) {
            CHECK.due("NEXT", x.subscription(0, 2), k);
            x.publish(0, -1, 0);
            Scene.changeAndTick(x, k);
            CHECK.due("its number", x.message(k - 1, 1), k);
        }
        x.subscribe(0, 100, 1, 100, 0);
        CHECK.due("each SUBSCRIPTION has its own", x.subscription(1, 2), 1);
    }

    private static void itemsByNumbers() {
        WatchServer x = Scene.client();
        x.subscribe(0, 1, 20, 100, 0);
        x.subscribe(0, 100, 20, 100, 0);
        int[] subs = {0, 1, 0, 0, 0};
        int[] modes = {2, 2, 1, 0, 1};
        for (int i = 0; i < 5; i++) {
            x.item(0, subs[i], 2 - i % 2, 1, 8, true, modes[i], 0);
        }
        x.item(0, 0, 1, 1, 8, true, 2, 0);
        x.mode(0, 4, 2);
        x.mode(0, 0, 1);
        x.mode(0, 0, 2);
        x.publish(0, -1, 0);
        Scene.changeAndTick(x, 5);
        int[] due = {0, 4, 5, 5};
        CHECK.due("how many", x.message(0, 2), due.length);
        for (int i = 0; i < due.length; i++) {
            CHECK.due("ITEM of entry " + i, x.entry(0, i, 1), due[i]);
        }
    }

    /** ITEMS 0 and 1 in MODE 2 with 4 entries each, of SUBSCRIPTION 0 that publishes with the next TICK. */
    private static WatchServer twoQueues(int most) {
        WatchServer x = Scene.watcher(4, 20, 100, most);
        x.item(0, 0, 1, 1, 8, true, 2, 0);
        for (int v = 1; v <= 3; v++) {
            Scene.changeAndTick(x, v);
        }
        return x;
    }

    private static void fromTheFirstOn() {
        WatchServer x = twoQueues(3);
        Scene.waitTwice(x);
        CHECK.due("two", x.tick(1), 2);
        long[][] due = {{0, 0}, {0, 1}, {0, 2}, {0, 3}, {1, 0}, {1, 1}};
        for (int k = 0; k < due.length; k++) {
            CHECK.due("ITEM, " + k, x.entry(k / 3, k % 3, 1), due[k][0]);
            CHECK.due("value, " + k, x.entry(k / 3, k % 3, 0), due[k][1]);
        }
        CHECK.due("what is left", x.itemOf(0, 3) * 10 + x.itemOf(1, 3), 2);
    }

    private static void mostTogether() {
        for (int most = 1; most <= 10; most++) {
            WatchServer x = twoQueues(most);
            x.publish(0, -1, 0);
            x.tick(1);
            CHECK.due("MOST " + most, x.message(0, 2), Math.min(8, most));
            CHECK.due("MORE with MOST " + most, x.message(0, 3), most < 8 ? 1 : 0);
        }
    }

    private static void allOfThem() {
        WatchServer x = twoQueues(0);
        x.publish(0, -1, 0);
        x.tick(1);
        CHECK.due("all 8", x.message(0, 2), 8);
        CHECK.due("no MORE", x.message(0, 3), 0);
    }

    /** ITEMS of SIZE 1 with an entry each, of a SUBSCRIPTION with MOST 0 that publishes with the next TICK. */
    private static WatchServer singleEntries(int count) {
        WatchServer x = Scene.client();
        x.subscribe(0, 1, 20, 100, 0);
        for (int i = 0; i < count; i++) {
            x.item(0, 0, 1, 1, 1, true, 2, 0);
        }
        return x;
    }

    private static void neverMoreThanForty() {
        int[] counts = {39, 40, 41, 60};
        for (int count : counts) {
            WatchServer x = singleEntries(count);
            Scene.waitTwice(x);
            CHECK.due("MESSAGES for " + count, x.tick(1), count > 40 ? 2 : 1);
            CHECK.due("entries of " + count, x.message(0, 2), Math.min(40, count));
            CHECK.due("MORE of " + count, x.message(0, 3), count > 40 ? 1 : 0);
            CHECK.due("the last one's ITEM", x.entry(0, Math.min(40, count) - 1, 1), Math.min(40, count) - 1);
            CHECK.due("no 41st", x.entry(0, 40, 1), -9);
            CHECK.due("the rest", x.message(1, 2), count > 40 ? count - 40 : -9);
        }
    }

    private static void leaveTheQueues() {
        WatchServer x = twoQueues(5);
        x.publish(0, -1, 0);
        x.tick(1);
        CHECK.due("all of the first", x.itemOf(0, 3), 0);
        CHECK.due("one of the second", x.itemOf(1, 3), 3);
        x.publish(0, -1, 0);
        CHECK.due("the rest", x.itemOf(1, 3), 0);
        CHECK.due("none comes twice", x.message(1, 2), 3);
        CHECK.due("from the second one on", x.entry(1, 0, 0), 1);
    }

    private static void more() {
        WatchServer x = twoQueues(7);
        x.item(0, 0, 1, 1, 8, true, 1, 0);
        x.publish(0, -1, 0);
        x.tick(1);
        CHECK.due("one is left", x.message(0, 3), 1);
        x.publish(0, -1, 0);
        CHECK.due("none is left, but in MODE 1", x.message(1, 3), 0);
        CHECK.due("that one", x.itemOf(2, 3), 1);
        WatchServer y = twoQueues(8);
        y.publish(0, -1, 0);
        y.tick(1);
        CHECK.due("as many as MOST: none is left", y.message(0, 3), 0);
    }

    /** VALUES of numbers 1 to count, MESSAGES 0 to count - 1. */
    private static WatchServer published(int count) {
        WatchServer x = Scene.clients();
        x.subscribe(0, 1, 20, 100, 0);
        x.item(0, 0, 1, 1, 8, true, 2, 0);
        for (int k = 1; k <= count; k++) {
            x.publish(0, -1, 0);
            Scene.changeAndTick(x, k);
        }
        x.activate(0);
        x.activate(1);
        return x;
    }

    private static void keptTillAcknowledged() {
        WatchServer x = published(2);
        CHECK.due("KEPT", x.message(0, 5) + x.message(1, 5), 2);
        x.publish(0, -1, 0);
        x.tick(10);
        CHECK.due("KEPT still", x.subscription(0, 7), 2);
        x.publish(0, 0, 2);
        CHECK.due("acknowledged", x.message(1, 5), 0);
        CHECK.due("the other is KEPT", x.message(0, 5), 1);
        CHECK.due("one is KEPT", x.subscription(0, 7), 1);
    }

    private static void fiveLatest() {
        WatchServer x = published(5);
        CHECK.due("5 of 5", x.subscription(0, 7), 5);
        CHECK.due("the first too", x.message(0, 5), 1);
        WatchServer y = published(6);
        CHECK.due("5 of 6", y.subscription(0, 7), 5);
        CHECK.due("the first no more", y.message(0, 5), 0);
        CHECK.due("the second", y.message(1, 5), 1);
        CHECK.refused(y, "the first can't be asked for", -9, () -> y.again(0, 0, 1));
        y.subscribe(0, 1, 20, 100, 0);
        y.item(0, 1, 1, 1, 8, true, 2, 0);
        y.publish(0, -1, 0);
        y.tick(1);
        CHECK.due("another one's is KEPT", y.subscription(1, 7), 1);
        CHECK.due("and takes nothing of the first one's", y.subscription(0, 7), 5);
        y.publish(0, -1, 0);
        y.tick(20);
        CHECK.due("a sign of life takes nothing", y.subscription(0, 7), 5);
    }

    private static void signOfLife() {
        WatchServer x = published(1);
        x.publish(0, -1, 0);
        CHECK.due("one", x.tick(20), 1);
        CHECK.due("its number is NEXT", x.message(1, 1), 2);
        CHECK.due("no entries", x.message(1, 2), 0);
        CHECK.due("no MORE", x.message(1, 3), 0);
        CHECK.due("not KEPT", x.message(1, 5), 0);
        CHECK.due("NEXT stays", x.subscription(0, 2), 2);
        CHECK.due("the one before is KEPT", x.subscription(0, 7), 1);
        x.publish(0, 0, 2);
        CHECK.due("it can't be acknowledged", x.acknowledged(), -9);
        Scene.changeAndTick(x, 9);
        CHECK.due("the next VALUES have its number", x.message(2, 1), 2);
        x.turn(0, 0, false);
        Scene.changeAndTick(x, 10);
        x.publish(0, -1, 0);
        x.tick(19);
        CHECK.due("entries, but not ON: a sign of life", x.message(3, 2), 0);
        CHECK.due("without MORE", x.message(3, 3), 0);
    }

    private static void answersOne() {
        WatchServer x = Scene.clients();
        x.subscribe(0, 1, 1, 100, 0);
        x.subscribe(1, 100, 1, 100, 0);
        for (int k = 0; k < 4; k++) {
            x.publish(0, -1, 0);
            x.publish(1, -1, 0);
        }
        for (int left = 3; left >= 0; left--) {
            CHECK.due("one MESSAGE", x.tick(1), 1);
            CHECK.due("REQUESTS", x.sessionOf(0, 2), left);
        }
        CHECK.due("none left", x.tick(1), 0);
        CHECK.due("the other SESSION's stay", x.sessionOf(1, 2), 4);
    }

    private static void whatIsAnew() {
        WatchServer x = Scene.client();
        x.subscribe(0, 1, 2, 10, 0);
        x.tick(3);
        CHECK.due("LATE", x.subscription(0, 5), 1);
        CHECK.due("LIFE LEFT", x.subscription(0, 4), 7);
        x.publish(0, -1, 0);
        CHECK.due("LATE no more", x.subscription(0, 5), 0);
        CHECK.due("LIFE LEFT is LIFE", x.subscription(0, 4), 10);
        x.tick(3);
        CHECK.due("SENT: KEEP LEFT is less", x.subscription(0, 3), -1);
        x.publish(0, -1, 0);
        CHECK.due("KEEP LEFT is KEEP", x.subscription(0, 3), 2);
        x.item(0, 0, 1, 1, 8, true, 2, 0);
        x.tick(2);
        x.publish(0, -1, 0);
        CHECK.due("VALUES", x.message(2, 2), 1);
        CHECK.due("KEEP LEFT is KEEP by VALUES", x.subscription(0, 3), 2);
        CHECK.due("LIFE LEFT is LIFE by VALUES", x.subscription(0, 4), 10);
        CHECK.due("LATE no more by VALUES", x.subscription(0, 5), 0);
    }

    private static void againBehind() {
        WatchServer x = published(3);
        x.again(0, 0, 1);
        x.again(0, 0, 3);
        x.again(0, 0, 1);
        int[] due = {0, 1, 2, 0, 2, 0, -9};
        for (int i = 0; i < due.length; i++) {
            CHECK.due("MAIL " + i, x.mail(0, i), due[i]);
        }
        CHECK.due("KEPT still", x.subscription(0, 7), 3);
    }

    private static void againTheSame() {
        WatchServer x = Scene.clients();
        x.subscribe(0, 1, 20, 100, 0);
        x.publish(0, -1, 0);
        x.publish(0, -1, 0);
        x.tick(1);
        x.item(0, 0, 1, 1, 8, true, 2, 0);
        x.publish(0, -1, 0);
        x.tick(1);
        Scene.changeAndTick(x, 5);
        CHECK.due("number 1 is MESSAGE 1", x.again(0, 0, 1), 1);
        CHECK.due("number 2 is MESSAGE 2", x.again(0, 0, 2), 2);
        x.transfer(1, 0);
        CHECK.due("for another SESSION", x.again(1, 0, 2), 2);
        CHECK.due("no MESSAGES by that", x.status(6), 3);
        WatchServer y = published(1);
        CHECK.due("number 1 is MESSAGE 0", y.again(0, 0, 1), 0);
    }

    private static void againRenewsLife() {
        WatchServer x = published(1);
        Scene.changeAndTick(x, 9);
        CHECK.due("before", x.subscription(0, 4), 99);
        x.again(0, 0, 2);
        CHECK.due("refused: as it was", x.subscription(0, 4), 99);
        x.again(0, 0, 1);
        CHECK.due("LIFE LEFT", x.subscription(0, 4), 100);
        CHECK.due("LATE still", x.subscription(0, 5), 1);
    }

    private static void againSessions() {
        WatchServer x = published(1);
        CHECK.refusesSessions(x, "again", s -> x.again(s, 0, 1));
        CHECK.refusesSessions(x, "again, all wrong", s -> x.again(s, 9, 9));
        CHECK.due("else it is", x.again(0, 0, 1), 0);
    }

    private static void againOthers() {
        WatchServer x = published(1);
        for (int sub : new int[] {1, -1, 20, Integer.MIN_VALUE, Integer.MAX_VALUE}) {
            CHECK.refused(x, "SUBSCRIPTION " + sub, -5, () -> x.again(0, sub, 1));
        }
        CHECK.refused(x, "another's", -5, () -> x.again(1, 0, 1));
        CHECK.refused(x, "another's before what is not KEPT", -5, () -> x.again(1, 0, 9));
        x.unsubscribe(0, 0);
        CHECK.refused(x, "no more", -5, () -> x.again(0, 0, 1));
    }

    private static void againNotKept() {
        WatchServer x = published(7);
        for (int n : new int[] {0, 1, 2, 8, -1, Integer.MIN_VALUE, Integer.MAX_VALUE}) {
            CHECK.refused(x, "number " + n, -9, () -> x.again(0, 0, n));
        }
        x.publish(0, 0, 5);
        CHECK.refused(x, "acknowledged", -9, () -> x.again(0, 0, 5));
        CHECK.due("number 3 is KEPT", x.again(0, 0, 3), 2);
        WatchServer y = Scene.client();
        y.subscribe(0, 1, 20, 100, 0);
        y.publish(0, -1, 0);
        y.tick(1);
        y.activate(0);
        CHECK.refused(y, "a sign of life", -9, () -> y.again(0, 0, 1));
    }

    private static WatchServer withMuchMail() {
        WatchServer x = published(1);
        for (int k = 1; k < 200; k++) {
            x.again(0, 0, 1);
        }
        return x;
    }

    private static void againRoom() {
        WatchServer x = published(1);
        for (int k = 1; k < 199; k++) {
            x.again(0, 0, 1);
        }
        CHECK.due("the 200th", x.again(0, 0, 1), 0);
        CHECK.due("200", x.sessionOf(0, 4), 200);
        CHECK.refused(x, "a 201st", -8, () -> x.again(0, 0, 1));
        CHECK.refused(x, "what is not KEPT is told first", -9, () -> x.again(0, 0, 2));
        CHECK.refused(x, "and the SUBSCRIPTION before it", -5, () -> x.again(0, 1, 2));
        x.transfer(1, 0);
        CHECK.due("another SESSION's MAIL has room", x.again(1, 0, 1), 0);
    }

    private static void moreMail() {
        WatchServer x = withMuchMail();
        for (int k = 1; k <= 3; k++) {
            x.publish(0, -1, 0);
            CHECK.due("made", Scene.changeAndTick(x, -k), 1);
            CHECK.due("MAIL", x.sessionOf(0, 4), 200 + k);
            CHECK.due("the last of it", x.mail(0, 199 + k), k);
        }
        x.activate(0);
        CHECK.refused(x, "but not again", -8, () -> x.again(0, 0, 1));
    }

    private static void mailOfAny() {
        WatchServer x = published(2);
        x.again(0, 0, 1);
        int[] due = {0, 1, 0};
        for (int k = 0; k < due.length; k++) {
            int i = k;
            CHECK.tells(x, "ACTIVE, " + i, due[i], () -> x.mail(0, i));
        }
        x.close(0);
        for (int k = 0; k < due.length; k++) {
            int i = k;
            CHECK.tells(x, "CLOSED, " + i, due[i], () -> x.mail(0, i));
        }
    }

    private static void noMail() {
        WatchServer x = published(2);
        for (int i : new int[] {2, -1, Integer.MIN_VALUE, Integer.MAX_VALUE}) {
            CHECK.tells(x, "i " + i, -9, () -> x.mail(0, i));
        }
        for (int s = 1; s <= 3; s++) {
            int empty = s;
            CHECK.tells(x, "SESSION " + s + " has none", -9, () -> x.mail(empty, 0));
        }
    }

    private static void mailOfNobody() {
        WatchServer x = published(2);
        for (int s : new int[] {4, -1, Integer.MIN_VALUE, Integer.MAX_VALUE}) {
            CHECK.tells(x, "SESSION " + s, -1, () -> x.mail(s, 0));
            CHECK.tells(x, "SESSION " + s + ", i -1", -1, () -> x.mail(s, -1));
        }
    }

    private static void viewsCountNothing() {
        WatchServer x = published(1);
        CHECK.tells(x, "message", -9, () -> x.message(9, 0));
        CHECK.tells(x, "entry", -9, () -> x.entry(9, 0, 0));
        CHECK.tells(x, "sessionOf", -9, () -> x.sessionOf(9, 0));
        CHECK.tells(x, "subscription", -9, () -> x.subscription(9, 0));
        CHECK.tells(x, "itemOf", -9, () -> x.itemOf(9, 0));
        CHECK.tells(x, "status", -9, () -> x.status(10));
    }

    private static void parts() {
        WatchServer x = Scene.client();
        x.subscribe(0, 100, 20, 100, 0);
        x.subscribe(0, 1, 20, 100, 0);
        x.publish(0, -1, 0);
        x.tick(1);
        x.item(0, 1, 1, 1, 8, true, 2, 0);
        Scene.waitTwice(x);
        x.tick(1);
        Scene.changeAndTick(x, 5);
        int[][] due = {{1, 1, 0}, {1, 1, 1}, {1, 2, 1}};
        for (int m = 0; m < due.length; m++) {
            for (int what = 0; what <= 2; what++) {
                CHECK.due("MESSAGE " + m + ", what " + what, x.message(m, what), due[m][what]);
            }
        }
    }

    private static void timeOfMaking() {
        WatchServer x = Scene.watcher(3, 20, 100, 0);
        x.publish(0, -1, 0);
        x.tick(5);
        CHECK.due("made by a TICK", x.message(0, 4), 3);
        Scene.changeAndTick(x, 5);
        x.tick(1);
        x.publish(0, -1, 0);
        CHECK.due("made by publish", x.message(1, 4), 7);
        x.tick(1);
        x.again(0, 0, 1);
        CHECK.due("again: as it was", x.message(0, 4), 3);
    }

    private static void thereWasMore() {
        WatchServer x = twoQueues(7);
        x.publish(0, -1, 0);
        x.tick(1);
        CHECK.due("MORE", x.message(0, 3), 1);
        x.publish(0, -1, 0);
        CHECK.due("the rest came: there was MORE still", x.message(0, 3), 1);
        CHECK.due("none then", x.message(1, 3), 0);
        Scene.changeAndTick(x, 9);
        CHECK.due("new entries do not change that", x.message(1, 3), 0);
    }

    private static void keptNow() {
        WatchServer x = published(1);
        CHECK.due("KEPT", x.message(0, 5), 1);
        x.publish(0, 0, 1);
        CHECK.due("acknowledged", x.message(0, 5), 0);
        WatchServer y = published(1);
        y.unsubscribe(0, 0);
        CHECK.due("its SUBSCRIPTION is no more", y.message(0, 5), 0);
        int[] rest = {0, 1, 2, 0, 1};
        for (int what = 0; what <= 4; what++) {
            CHECK.due("the rest stays, " + what, y.message(0, what), rest[what]);
        }
    }

    private static void messageNone() {
        WatchServer x = published(2);
        for (int m : new int[] {2, -1, 900, Integer.MIN_VALUE, Integer.MAX_VALUE}) {
            CHECK.tells(x, "MESSAGE " + m, -9, () -> x.message(m, 0));
        }
        CHECK.tells(x, "what 6", -9, () -> x.message(0, 6));
        for (int what : WRONG_WHATS) {
            CHECK.tells(x, "what " + what, -9, () -> x.message(0, what));
        }
    }

    private static void entries() {
        WatchServer x = Scene.client();
        x.subscribe(0, 2, 20, 100, 0);
        x.item(0, 0, 2, 1, 8, true, 0, 0);
        x.item(0, 0, 1, 1, 8, true, 2, 0);
        Scene.changeAndTick(x, Long.MIN_VALUE);
        x.change(1, Long.MAX_VALUE);
        x.publish(0, -1, 0);
        x.tick(1);
        long[][] due = {{0, 1, 0}, {Long.MIN_VALUE, 1, 1}, {Long.MAX_VALUE, 1, 2}};
        for (int i = 0; i < due.length; i++) {
            for (int what = 0; what <= 2; what++) {
                CHECK.due("entry " + i + ", what " + what, x.entry(0, i, what), due[i][what]);
            }
        }
        x.drop(0, 1);
        x.change(1, 0);
        CHECK.due("it stays when its ITEM is no more", x.entry(0, 2, 0), Long.MAX_VALUE);
    }

    private static void entryBit() {
        WatchServer x = Scene.client();
        x.subscribe(0, 3, 20, 100, 0);
        x.item(0, 0, 1, 1, 2, true, 2, 0);
        x.item(0, 0, 1, 1, 2, false, 2, 0);
        for (int v = 1; v <= 2; v++) {
            Scene.changeAndTick(x, v);
        }
        x.publish(0, -1, 0);
        x.tick(1);
        int[] due = {1, 0, 0, 1};
        for (int i = 0; i < due.length; i++) {
            CHECK.due("BIT of entry " + i, x.entry(0, i, 3), due[i]);
        }
    }

    private static void entryNone() {
        WatchServer x = published(1);
        CHECK.due("two entries", x.message(0, 2), 2);
        for (int m : new int[] {1, -1, Integer.MIN_VALUE, Integer.MAX_VALUE}) {
            CHECK.tells(x, "MESSAGE " + m, -9, () -> x.entry(m, 0, 0));
        }
        for (int i : new int[] {2, -1, Integer.MIN_VALUE, Integer.MAX_VALUE}) {
            CHECK.tells(x, "entry " + i, -9, () -> x.entry(0, i, 0));
        }
        CHECK.tells(x, "what 4", -9, () -> x.entry(0, 0, 4));
        for (int what : WRONG_WHATS) {
            CHECK.tells(x, "what " + what, -9, () -> x.entry(0, 0, what));
        }
        WatchServer y = Scene.client();
        y.subscribe(0, 1, 20, 100, 0);
        y.publish(0, -1, 0);
        y.tick(1);
        CHECK.tells(y, "a sign of life has none", -9, () -> y.entry(0, 0, 0));
    }
}

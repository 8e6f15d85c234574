/** Promises 23 to 26: again, mail, message, entry; and what a MESSAGE has and which are KEPT. */
public final class MessagesTest {
    private static final Check CHECK = new Check();

    public static void main(String[] args) {
        entriesByNumbers();
        mostTogether();
        neverMoreThanForty();
        keptAreTheLatest();
        keptAfterAcknowledging();
        againBehindTheMail();
        againRefused();
        againWithMuchMail();
        againRenewsLife();
        mails();
        views();
        nineHundred();
        CHECK.done();
    }

    private static void entriesByNumbers() {
        WatchServer x = Scene.client();
        x.subscribe(0, 2, 20, 100, 0);
        x.item(0, 0, 2, 1, 8, true, 2, 0);
        x.item(0, 0, 1, 1, 8, true, 1, 0);
        x.item(0, 0, 1, 1, 8, true, 2, 0);
        x.item(0, 0, 1, 1, 8, true, 0, 0);
        x.publish(0, -1, 0);
        Scene.changeAndTick(x, 5);
        x.change(2, 6);
        CHECK.due("one MESSAGE", x.tick(1), 1);
        long[][] due = {{0, 0, 0, 0}, {6, 0, 2, 0}, {0, 2, 0, 0}, {5, 2, 1, 0}};
        CHECK.due("of ITEMS in MODE 2", x.message(0, 2), due.length);
        for (int i = 0; i < due.length; i++) {
            for (int what = 0; what <= 3; what++) {
                CHECK.due("entry " + i + ", " + what, x.entry(0, i, what), due[i][what]);
            }
        }
        CHECK.due("no MORE, though the one in MODE 1 has entries", x.message(0, 3), 0);
        CHECK.due("which stay", x.itemOf(1, 3), 2);
        CHECK.due("the others left", x.itemOf(0, 3) + x.itemOf(2, 3), 0);
        CHECK.due("NEXT", x.subscription(0, 2), 2);
        x.drop(0, 0);
        CHECK.due("a MESSAGE keeps its entries", x.entry(0, 1, 0), 6);
    }

    private static void mostTogether() {
        WatchServer x = Scene.client();
        x.subscribe(0, 3, 20, 100, 2);
        x.item(0, 0, 1, 1, 8, true, 2, 0);
        x.item(0, 0, 1, 3, 8, true, 2, 0);
        x.publish(0, -1, 0);
        x.publish(0, -1, 0);
        x.change(1, 5);
        CHECK.due("two MESSAGES", x.tick(3), 2);
        CHECK.due("MOST of them", x.message(0, 2), 2);
        CHECK.due("of the first ITEM", x.entry(0, 1, 1), 0);
        CHECK.due("MORE", x.message(0, 3), 1);
        CHECK.due("the rest", x.message(1, 2), 2);
        CHECK.due("of the second ITEM", x.entry(1, 0, 1), 1);
        CHECK.due("no MORE", x.message(1, 3), 0);
        CHECK.due("numbers", x.message(0, 1) * 10 + x.message(1, 1), 12);
        WatchServer y = Scene.watcher(4, 20, 100, 10);
        y.item(0, 0, 1, 1, 8, true, 2, 0);
        y.item(0, 0, 1, 1, 8, true, 2, 0);
        y.publish(0, -1, 0);
        for (int v = 1; v <= 4; v++) {
            Scene.changeAndTick(y, v);
        }
        CHECK.due("largest MOST", y.message(0, 2), 10);
        CHECK.due("in two whole QUEUES", y.entry(0, 9, 1), 1);
        CHECK.due("and MORE", y.message(0, 3), 1);
    }

    private static void neverMoreThanForty() {
        WatchServer x = Scene.client();
        x.subscribe(0, 8, 20, 100, 0);
        for (int i = 0; i < 6; i++) {
            x.item(0, 0, 1, 1, 7, true, 2, 0);
        }
        for (int v = 1; v <= 7; v++) {
            Scene.changeAndTick(x, v);
        }
        x.publish(0, -1, 0);
        CHECK.due("one REQUEST", x.tick(1), 1);
        CHECK.due("40 of 42", x.message(0, 2), 40);
        CHECK.due("and MORE", x.message(0, 3), 1);
        CHECK.due("two are left", x.itemOf(5, 3), 2);
        CHECK.due("the last of them", x.entry(0, 39, 0), 5);
        CHECK.due("the last one's ITEM", x.entry(0, 39, 1), 5);
        CHECK.due("no more than that", x.entry(0, 40, 0), -9);
        x.publish(0, -1, 0);
        CHECK.due("then the two", x.message(1, 2), 2);
        CHECK.due("no MORE", x.message(1, 3), 0);
    }

    /** VALUES of numbers 1 to count, KEPT as long as the document says. */
    private static WatchServer published(int count) {
        WatchServer x = Scene.watcher(1, 20, 100, 0);
        for (int k = 1; k <= count; k++) {
            x.publish(0, -1, 0);
            Scene.changeAndTick(x, k);
        }
        return x;
    }

    private static void keptAreTheLatest() {
        WatchServer x = published(5);
        CHECK.due("5", x.subscription(0, 7), 5);
        CHECK.due("the first too", x.message(0, 5), 1);
        WatchServer y = published(7);
        CHECK.due("5 at most", y.subscription(0, 7), 5);
        for (int m = 0; m < 7; m++) {
            CHECK.due("KEPT " + m, y.message(m, 5), m < 2 ? 0 : 1);
        }
        y.publish(0, 0, 2);
        CHECK.due("number 2 is KEPT no more", y.acknowledged(), -9);
        y.publish(0, 0, 3);
        CHECK.due("number 3 is", y.acknowledged(), 1);
        y.subscribe(0, 1, 20, 100, 0);
        y.item(0, 1, 1, 1, 8, true, 2, 0);
        y.tick(1);
        CHECK.due("another SUBSCRIPTION's", y.message(7, 0), 1);
        CHECK.due("take nothing of the first one's", y.subscription(0, 7), 4);
    }

    private static void keptAfterAcknowledging() {
        WatchServer x = published(5);
        x.publish(0, 0, 4);
        Scene.changeAndTick(x, 6);
        CHECK.due("there was room", x.message(0, 5), 1);
        CHECK.due("5 again", x.subscription(0, 7), 5);
        x.publish(0, -1, 0);
        Scene.changeAndTick(x, 7);
        CHECK.due("none now: the first goes", x.message(0, 5), 0);
        CHECK.due("the second is KEPT", x.message(1, 5), 1);
    }

    private static void againBehindTheMail() {
        WatchServer x = published(3);
        CHECK.due("the MESSAGE's number", x.again(0, 0, 2), 1);
        CHECK.due("behind the MAIL", x.mail(0, 3), 1);
        CHECK.due("it is no new one", x.status(6), 3);
        CHECK.due("it is KEPT still", x.message(1, 5), 1);
        CHECK.due("as often as asked", x.again(0, 0, 2), 1);
        CHECK.due("5 in the MAIL", x.sessionOf(0, 4), 5);
        CHECK.due("no REQUEST is needed", x.sessionOf(0, 2), 0);
        x.session(100);
        x.activate(1);
        x.transfer(1, 0);
        CHECK.due("another SESSION's then", x.again(1, 0, 1), 0);
        CHECK.due("behind its MAIL", x.mail(1, 0), 0);
    }

    private static void againRefused() {
        WatchServer x = Scene.clients();
        x.subscribe(0, 1, 20, 100, 0);
        x.item(0, 0, 1, 1, 1, true, 2, 0);
        x.publish(0, -1, 0);
        x.publish(0, -1, 0);
        x.tick(1);
        Scene.changeAndTick(x, 1);
        x.publish(0, 0, 1);
        x.activate(1);
        CHECK.refused(x, "nobody", -1, () -> x.again(4, 9, 9));
        CHECK.refused(x, "CLOSED", -2, () -> x.again(2, 9, 9));
        CHECK.refused(x, "NEW", -3, () -> x.again(3, 9, 9));
        CHECK.refused(x, "none such", -5, () -> x.again(0, 1, 9));
        CHECK.refused(x, "-1", -5, () -> x.again(0, -1, 9));
        CHECK.refused(x, "another's", -5, () -> x.again(1, 0, 2));
        CHECK.refused(x, "acknowledged", -9, () -> x.again(0, 0, 1));
        CHECK.refused(x, "not yet made", -9, () -> x.again(0, 0, 3));
        CHECK.refused(x, "number 0", -9, () -> x.again(0, 0, 0));
        CHECK.due("KEPT", x.again(0, 0, 2), 1);
    }

    private static void againWithMuchMail() {
        WatchServer x = published(1);
        for (int k = 1; k < 200; k++) {
            CHECK.due("again " + k, x.again(0, 0, 1), 0);
        }
        CHECK.due("200", x.sessionOf(0, 4), 200);
        CHECK.refused(x, "none more", -8, () -> x.again(0, 0, 1));
        CHECK.refused(x, "KEPT before room", -9, () -> x.again(0, 0, 2));
        x.publish(0, -1, 0);
        CHECK.due("but by MESSAGES that are made", Scene.changeAndTick(x, 9), 1);
        CHECK.due("201", x.sessionOf(0, 4), 201);
        CHECK.due("it is the last", x.mail(0, 200), 1);
        x.activate(0);
        CHECK.refused(x, "none more with 201", -8, () -> x.again(0, 0, 1));
    }

    private static void againRenewsLife() {
        WatchServer x = published(1);
        Scene.changeAndTick(x, 9);
        CHECK.due("LIFE LEFT", x.subscription(0, 4), 99);
        x.again(0, 0, 5);
        CHECK.due("refused: as it was", x.subscription(0, 4), 99);
        x.again(0, 0, 1);
        CHECK.due("LIFE LEFT is LIFE", x.subscription(0, 4), 100);
        CHECK.due("LATE still", x.subscription(0, 5), 1);
    }

    private static void mails() {
        WatchServer x = Scene.clients();
        x.subscribe(1, 1, 20, 100, 0);
        x.subscribe(0, 1, 20, 100, 0);
        x.publish(0, -1, 0);
        x.publish(1, -1, 0);
        x.tick(1);
        CHECK.tells(x, "of SESSION 1", 0, () -> x.mail(1, 0));
        CHECK.tells(x, "of SESSION 0", 1, () -> x.mail(0, 0));
        CHECK.tells(x, "none behind it", -9, () -> x.mail(0, 1));
        CHECK.tells(x, "none before it", -9, () -> x.mail(0, -1));
        CHECK.tells(x, "smallest i", -9, () -> x.mail(0, Integer.MIN_VALUE));
        CHECK.tells(x, "a NEW one's", -9, () -> x.mail(3, 0));
        CHECK.tells(x, "nobody", -1, () -> x.mail(4, 0));
        CHECK.tells(x, "SESSION -1", -1, () -> x.mail(-1, 0));
        x.close(0);
        CHECK.tells(x, "CLOSED", 1, () -> x.mail(0, 0));
    }

    private static void views() {
        WatchServer x = Scene.watcher(2, 20, 100, 1);
        x.tick(1);
        x.subscribe(0, 1, 20, 100, 1);
        x.item(0, 1, 2, 1, 2, true, 2, 0);
        for (int v = 7; v <= 8; v++) {
            x.change(2, v);
            x.tick(1);
        }
        x.publish(0, -1, 0);
        x.publish(0, -1, 0);
        int[] due = {1, 1, 1, 1, 3, 1};
        for (int k = 0; k <= 5; k++) {
            int what = k;
            CHECK.tells(x, "message " + what, due[what], () -> x.message(1, what));
        }
        long[] entry = {7, 1, 2, 1};
        for (int k = 0; k <= 3; k++) {
            int what = k;
            CHECK.tells(x, "entry " + what, entry[what], () -> x.entry(1, 0, what));
        }
        CHECK.tells(x, "message, what 6", -9, () -> x.message(1, 6));
        CHECK.tells(x, "message, what -1", -9, () -> x.message(1, -1));
        CHECK.tells(x, "no MESSAGE 2", -9, () -> x.message(2, 0));
        CHECK.tells(x, "no MESSAGE -1", -9, () -> x.message(-1, 0));
        CHECK.tells(x, "entry, what 4", -9, () -> x.entry(1, 0, 4));
        CHECK.tells(x, "entry, what -1", -9, () -> x.entry(1, 0, -1));
        CHECK.tells(x, "no entry 1", -9, () -> x.entry(1, 1, 0));
        CHECK.tells(x, "no entry -1", -9, () -> x.entry(1, -1, 0));
        CHECK.tells(x, "no entry of MESSAGE 2", -9, () -> x.entry(2, 0, 0));
        CHECK.tells(x, "no entry of MESSAGE -1", -9, () -> x.entry(-1, 0, 0));
    }

    /** Each MESSAGE takes a publish(), so that 900 come only after the 512 calls that the document promises. */
    private static void nineHundred() {
        WatchServer x = Scene.watcher(1, 20, 100, 1);
        for (int k = 1; k < 900; k++) {
            Scene.changeAndTick(x, k);
            x.publish(0, -1, 0);
        }
        CHECK.due("899", x.status(6), 899);
        x.mode(0, 0, 0);
        x.mode(0, 0, 2);
        x.turn(0, 0, false);
        CHECK.due("one waits", x.publish(0, -1, 0), 0);
        CHECK.due("two wait", x.publish(0, -1, 0), 0);
        x.turn(0, 0, true);
        CHECK.due("the last one, with MORE", Scene.changeAndTick(x, 0), 1);
        CHECK.due("MORE", x.message(899, 3), 1);
        CHECK.due("a REQUEST waits still", x.sessionOf(0, 2), 1);
        CHECK.due("one more is none: LATE", x.subscription(0, 5), 1);
        CHECK.due("SHORT", x.subscription(0, 4), 99);
        CHECK.due("and again none", x.tick(1), 0);
        CHECK.due("SHORT again", x.subscription(0, 4), 98);
        x.activate(0);
        CHECK.refused(x, "no REQUEST", -8, () -> x.publish(0, 0, 900));
        CHECK.due("900", x.status(6), 900);
    }
}

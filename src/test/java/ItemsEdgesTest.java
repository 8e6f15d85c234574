/** The boundary cases that the document names of ITEMS and READY (Terms, promises 18 to 20 and 29), a test each. */
public final class ItemsEdgesTest {
    private static final Check CHECK = new Check();
    private static final String TERMS = "Terms";
    private static final int[] NONE_SUCH = {2, 3, -1, 60, Integer.MIN_VALUE, Integer.MAX_VALUE};
    /** INTERVAL, SIZE, MODE, BAND, one of them beyond an edge. */
    private static final long[][] WRONG = {{0, 1, 2, 0}, {101, 1, 2, 0}, {1, 0, 2, 0}, {1, 9, 2, 0}, {1, 1, -1, 0},
        {1, 1, 3, 0}, {1, 1, 2, -1}, {-1, 1, 2, 0}, {1, -1, 2, 0}, {1, 1, 2, Long.MIN_VALUE},
        {Integer.MIN_VALUE, 1, 2, 0}, {1, Integer.MIN_VALUE, 2, 0}, {1, 1, Integer.MIN_VALUE, 0},
        {Integer.MAX_VALUE, 1, 2, 0}, {1, Integer.MAX_VALUE, 2, 0}, {1, 1, Integer.MAX_VALUE, 0}};

    public static void main(String[] args) {
        CHECK.sentence(TERMS, "ITEMS have numbers from 0 on", ItemsEdgesTest::fromZeroOn);
        CHECK.sentence(TERMS, "(60 at most are ever made)", ItemsEdgesTest::sixtyEver);
        CHECK.sentence(TERMS, "of a SUBSCRIPTION, a VARIABLE, BORN at a TIME", ItemsEdgesTest::bornLater);
        CHECK.sentence(TERMS, "with an INTERVAL (1 .. 100)", ItemsEdgesTest::intervals);
        CHECK.sentence(TERMS, "a SIZE (1 .. 8)", ItemsEdgesTest::sizes);
        CHECK.sentence(TERMS, "a MODE: 0 OFF, 1 SAMPLING, 2 REPORTING", ItemsEdgesTest::modes);
        CHECK.sentence(TERMS, "a BAND (0 or above)", ItemsEdgesTest::bands);
        CHECK.sentence(TERMS, "READY is a SUBSCRIPTION that is ON", ItemsEdgesTest::readyIsOn);
        CHECK.sentence(TERMS, "some of whose ITEMS in MODE 2 have entries", ItemsEdgesTest::readyHasEntries);
        making();
        changing();
        CHECK.done();
    }

    private static void making() {
        String eighteen = "Promise 18: item";
        CHECK.sentence(eighteen, "which is SAMPLED at once, if its MODE is not 0", ItemsEdgesTest::sampledAtOnce);
        CHECK.sentence(eighteen, "LIFE LEFT is LIFE", ItemsEdgesTest::itemRenewsLife);
        CHECK.sentence(eighteen, "(so for the two that follow)", ItemsEdgesTest::modeAndDropRenewLife);
        CHECK.sentence(eighteen, "-1; -2; -3;", ItemsEdgesTest::itemSessions);
        CHECK.sentence(eighteen, "-5;", ItemsEdgesTest::itemOthers);
        CHECK.sentence(eighteen, "-4;", ItemsEdgesTest::itemNodes);
        CHECK.sentence(eighteen, "-7;", ItemsEdgesTest::itemNumbers);
        CHECK.sentence(eighteen, "-8.", ItemsEdgesTest::itemRoom);
    }

    private static void changing() {
        String nineteen = "Promise 19: mode";
        CHECK.sentence(nineteen, "MODE of an ITEM: what it was.", ItemsEdgesTest::whatItWas);
        CHECK.sentence(nineteen, "From 0 on to another one: it is SAMPLED at once, as a first one.",
            ItemsEdgesTest::fromOff);
        CHECK.sentence(nineteen, "To 0: its QUEUE is empty.", ItemsEdgesTest::toOff);
        CHECK.sentence(nineteen, "-1; -2; -3;", ItemsEdgesTest::modeSessions);
        CHECK.sentence(nineteen, "-6;", ItemsEdgesTest::modeOthers);
        CHECK.sentence(nineteen, "-7.", ItemsEdgesTest::modeNumbers);
        String twenty = "Promise 20: drop";
        CHECK.sentence(twenty, "an ITEM is no more", ItemsEdgesTest::drops);
        CHECK.sentence(twenty, "how many entries its QUEUE had", ItemsEdgesTest::dropEntries);
        CHECK.sentence(twenty, "-1; -2; -3;", ItemsEdgesTest::dropSessions);
        CHECK.sentence(twenty, "-6.", ItemsEdgesTest::dropOthers);
        String last = "Promise 29: itemOf";
        CHECK.sentence(last, "Of an ITEM that there is", ItemsEdgesTest::shownWhileThere);
        CHECK.sentence(last, "4 1 if the first of them has the BIT", ItemsEdgesTest::shownBit);
        CHECK.sentence(last, "-9: none such", ItemsEdgesTest::shownNone);
        CHECK.sentence(last, "another what.", ItemsEdgesTest::shownWhat);
    }

    private static void fromZeroOn() {
        WatchServer x = Scene.clients();
        x.subscribe(0, 100, 1, 3, 0);
        x.subscribe(1, 100, 1, 3, 0);
        for (int i = 0; i < 3; i++) {
            CHECK.due("item", x.item(i % 2, i % 2, 1 + i % 2, 1, 1, true, i, 0), i);
        }
        for (int i = 0; i < 3; i++) {
            CHECK.due("its SUBSCRIPTION", x.itemOf(i, 0), i % 2);
            CHECK.due("its NODE", x.itemOf(i, 1), 1 + i % 2);
            CHECK.due("its MODE", x.itemOf(i, 2), i);
        }
        CHECK.due("a 3 is none", x.itemOf(3, 0), -9);
    }

    private static WatchServer fullOfItems() {
        WatchServer x = Scene.clients();
        x.subscribe(0, 100, 1, 3, 0);
        x.subscribe(1, 100, 1, 3, 0);
        for (int i = 0; i < 60; i++) {
            x.item(i % 2, i % 2, 1, 1, 1, true, 2, 0);
        }
        return x;
    }

    private static void sixtyEver() {
        WatchServer x = Scene.clients();
        x.subscribe(0, 100, 1, 3, 0);
        x.subscribe(1, 100, 1, 3, 0);
        for (int i = 0; i < 59; i++) {
            x.item(i % 2, i % 2, 1, 1, 1, true, 2, 0);
        }
        x.drop(0, 0);
        CHECK.due("the 60th", x.item(0, 0, 1, 1, 1, true, 2, 0), 59);
        CHECK.due("a 61st, though one is no more", x.item(0, 0, 1, 1, 1, true, 2, 0), -8);
        CHECK.due("nor of another SUBSCRIPTION", x.item(1, 1, 1, 1, 1, true, 2, 0), -8);
        CHECK.due("59 are", x.status(5), 59);
        CHECK.due("the 60th is there", x.mode(0, 59, 1), 2);
        CHECK.due("the 61st is not", x.mode(0, 60, 1), -6);
    }

    private static void bornLater() {
        WatchServer x = Scene.client();
        x.subscribe(0, 100, 1, 3, 0);
        x.tick(2);
        x.item(0, 0, 1, 3, 8, true, 2, 0);
        x.change(1, 5);
        x.tick(1);
        CHECK.due("at TIME 3 it is not SAMPLED", x.itemOf(0, 3), 1);
        x.tick(2);
        CHECK.due("at TIME 5 it is", x.itemOf(0, 3), 2);
    }

    private static void intervals() {
        WatchServer x = Scene.client();
        x.subscribe(0, 100, 1, 100, 0);
        CHECK.due("0", x.item(0, 0, 1, 0, 8, true, 2, 0), -7);
        CHECK.due("1", x.item(0, 0, 1, 1, 8, true, 1, 0), 0);
        CHECK.due("100", x.item(0, 0, 1, 100, 8, true, 1, 0), 1);
        CHECK.due("101", x.item(0, 0, 1, 101, 8, true, 2, 0), -7);
        Scene.changeAndTick(x, 1);
        Scene.changeAndTick(x, 2);
        CHECK.due("1: each TICK", x.itemOf(0, 3), 3);
        x.tick(97);
        CHECK.due("100: not after 99", x.itemOf(1, 3), 1);
        x.tick(1);
        CHECK.due("100: after 100", x.itemOf(1, 3), 2);
    }

    private static void sizes() {
        WatchServer x = Scene.client();
        x.subscribe(0, 100, 1, 100, 0);
        CHECK.due("0", x.item(0, 0, 1, 1, 0, true, 2, 0), -7);
        CHECK.due("1", x.item(0, 0, 1, 1, 1, true, 2, 0), 0);
        CHECK.due("8", x.item(0, 0, 1, 1, 8, true, 2, 0), 1);
        CHECK.due("9", x.item(0, 0, 1, 1, 9, true, 2, 0), -7);
        for (int v = 1; v <= 7; v++) {
            Scene.changeAndTick(x, v);
        }
        CHECK.due("8: up to 8", x.itemOf(1, 3), 8);
        CHECK.due("8: none went", x.itemOf(1, 4), 0);
        Scene.changeAndTick(x, 8);
        CHECK.due("8: no ninth", x.itemOf(1, 3), 8);
        CHECK.due("8: one went", x.itemOf(1, 4), 1);
        CHECK.due("1: one", x.itemOf(0, 3), 1);
    }

    private static void modes() {
        WatchServer x = Scene.client();
        x.subscribe(0, 1, 1, 100, 0);
        CHECK.due("-1", x.item(0, 0, 1, 1, 8, true, -1, 0), -7);
        for (int mode = 0; mode <= 2; mode++) {
            CHECK.due("MODE", x.item(0, 0, 1, 1, 8, true, mode, 0), mode);
        }
        CHECK.due("3", x.item(0, 0, 1, 1, 8, true, 3, 0), -7);
        Scene.changeAndTick(x, 5);
        CHECK.due("OFF takes nothing", x.itemOf(0, 3), 0);
        CHECK.due("SAMPLING does", x.itemOf(1, 3), 2);
        CHECK.due("REPORTING does", x.itemOf(2, 3), 2);
        x.publish(0, -1, 0);
        CHECK.due("REPORTING alone is published", x.message(0, 2), 2);
        CHECK.due("its entries", x.entry(0, 0, 1) + x.entry(0, 1, 1), 4);
        CHECK.due("SAMPLING keeps its own", x.itemOf(1, 3), 2);
    }

    private static void bands() {
        WatchServer x = Scene.client();
        x.subscribe(0, 100, 1, 100, 0);
        CHECK.due("-1", x.item(0, 0, 1, 1, 8, true, 2, -1), -7);
        CHECK.due("0", x.item(0, 0, 1, 1, 8, true, 2, 0), 0);
        CHECK.due("the largest", x.item(0, 0, 1, 1, 8, true, 2, Long.MAX_VALUE), 1);
        CHECK.due("one above an int's", x.item(0, 0, 1, 1, 8, true, 2, 1L << 32), 2);
        CHECK.due("the smallest", x.item(0, 0, 1, 1, 8, true, 2, Long.MIN_VALUE), -7);
        Scene.changeAndTick(x, 1);
        CHECK.due("0: any difference", x.itemOf(0, 3), 2);
        CHECK.due("the largest: not this one", x.itemOf(1, 3), 1);
        CHECK.due("2^32: not this one", x.itemOf(2, 3), 1);
    }

    private static void readyIsOn() {
        WatchServer x = Scene.watcher(100, 1, 100, 0);
        CHECK.due("ON with an entry", x.subscription(0, 8), 1);
        x.turn(0, 0, false);
        CHECK.due("not ON", x.subscription(0, 8), 0);
        CHECK.due("the entry is there still", x.itemOf(0, 3), 1);
        x.turn(0, 0, true);
        CHECK.due("ON again", x.subscription(0, 8), 1);
    }

    private static void readyHasEntries() {
        WatchServer x = Scene.client();
        x.subscribe(0, 1, 1, 100, 0);
        x.subscribe(0, 100, 1, 100, 0);
        CHECK.due("without ITEMS", x.subscription(0, 8), 0);
        x.item(0, 0, 1, 1, 8, true, 0, 0);
        x.item(0, 0, 1, 1, 8, true, 1, 0);
        CHECK.due("with entries in MODE 1 alone", x.subscription(0, 8), 0);
        x.item(0, 1, 1, 1, 8, true, 2, 0);
        CHECK.due("with another's", x.subscription(0, 8), 0);
        x.item(0, 0, 1, 1, 8, true, 2, 0);
        CHECK.due("with one in MODE 2", x.subscription(0, 8), 1);
        x.publish(0, -1, 0);
        x.tick(1);
        CHECK.due("its QUEUE is empty", x.subscription(0, 8), 0);
        x.mode(0, 1, 2);
        CHECK.due("the other one in MODE 2 now", x.subscription(0, 8), 1);
        x.drop(0, 1);
        CHECK.due("it is dropped", x.subscription(0, 8), 0);
    }

    private static void sampledAtOnce() {
        WatchServer x = Scene.client();
        x.subscribe(0, 100, 1, 100, 0);
        x.tick(3);
        x.change(1, 7);
        for (int mode = 0; mode <= 2; mode++) {
            CHECK.due("its number", x.item(0, 0, 1, 100, 8, true, mode, Long.MAX_VALUE), mode);
            CHECK.due("entries in MODE " + mode, x.itemOf(mode, 3), mode == 0 ? 0 : 1);
        }
        x.tick(97);
        x.publish(0, -1, 0);
        CHECK.due("the VALUE", x.entry(0, 0, 0), 7);
        CHECK.due("its TIME", x.entry(0, 0, 2), 3);
    }

    /** Scene.clients(), SUBSCRIPTION 0 of SESSION 0 with ITEM 0, 1 of SESSION 1 with ITEM 1; 2 was dropped; LATE. */
    private static WatchServer twoOwners() {
        WatchServer x = Scene.clients();
        x.subscribe(0, 1, 1, 10, 0);
        x.subscribe(1, 1, 1, 10, 0);
        x.item(0, 0, 1, 1, 8, true, 2, 0);
        x.item(1, 1, 1, 1, 8, true, 2, 0);
        x.item(0, 0, 1, 1, 8, true, 2, 0);
        x.drop(0, 2);
        x.tick(2);
        x.activate(0);
        x.activate(1);
        return x;
    }

    private static void itemRenewsLife() {
        WatchServer x = twoOwners();
        CHECK.due("before", x.subscription(0, 4), 8);
        x.item(0, 0, 1, 0, 8, true, 2, 0);
        CHECK.due("refused: as it was", x.subscription(0, 4), 8);
        x.item(0, 0, 1, 1, 8, true, 0, 0);
        CHECK.due("LIFE LEFT", x.subscription(0, 4), 10);
        CHECK.due("LATE still", x.subscription(0, 5), 1);
        CHECK.due("the other one's is as it was", x.subscription(1, 4), 8);
    }

    private static void modeAndDropRenewLife() {
        WatchServer x = twoOwners();
        x.mode(0, 0, 3);
        CHECK.due("mode refused: as it was", x.subscription(0, 4), 8);
        x.mode(0, 0, 2);
        CHECK.due("mode, nothing new", x.subscription(0, 4), 10);
        x.tick(1);
        x.mode(0, 0, 0);
        CHECK.due("mode", x.subscription(0, 4), 10);
        x.tick(1);
        x.drop(0, 1);
        CHECK.due("drop refused: as it was", x.subscription(0, 4), 9);
        x.drop(0, 0);
        CHECK.due("drop", x.subscription(0, 4), 10);
        CHECK.due("the other one's is as it was", x.subscription(1, 4), 6);
    }

    private static void itemSessions() {
        WatchServer x = twoOwners();
        CHECK.refusesSessions(x, "item", s -> x.item(s, 0, 1, 1, 1, true, 2, 0));
        CHECK.refusesSessions(x, "item, all wrong", s -> x.item(s, 9, 9, 0, 0, true, 9, -1));
        CHECK.due("else it is made", x.item(0, 0, 1, 1, 1, true, 2, 0), 3);
    }

    private static void itemOthers() {
        WatchServer x = twoOwners();
        for (int sub : new int[] {2, -1, 20, Integer.MIN_VALUE, Integer.MAX_VALUE}) {
            CHECK.refused(x, "SUBSCRIPTION " + sub, -5, () -> x.item(0, sub, 1, 1, 1, true, 2, 0));
        }
        CHECK.refused(x, "another's", -5, () -> x.item(0, 1, 1, 1, 1, true, 2, 0));
        CHECK.refused(x, "another's before the NODE", -5, () -> x.item(0, 1, 9, 0, 1, true, 2, 0));
        x.unsubscribe(0, 0);
        CHECK.refused(x, "no more", -5, () -> x.item(0, 0, 1, 1, 1, true, 2, 0));
    }

    private static void itemNodes() {
        WatchServer x = twoOwners();
        for (int node : new int[] {0, 3, -1, Integer.MIN_VALUE, Integer.MAX_VALUE}) {
            CHECK.refused(x, "NODE " + node, -4, () -> x.item(0, 0, node, 1, 1, true, 2, 0));
            CHECK.refused(x, "NODE before the number", -4, () -> x.item(0, 0, node, 0, 1, true, 2, 0));
        }
    }

    private static void itemNumbers() {
        WatchServer x = twoOwners();
        for (long[] n : WRONG) {
            CHECK.refused(x, "item " + n[0] + " " + n[1] + " " + n[2] + " " + n[3], -7,
                () -> x.item(0, 0, 1, (int) n[0], (int) n[1], true, (int) n[2], n[3]));
        }
        CHECK.due("smallest", x.item(0, 0, 1, 1, 1, true, 0, 0), 3);
        CHECK.due("largest", x.item(0, 0, 1, 100, 8, true, 2, Long.MAX_VALUE), 4);
    }

    private static void itemRoom() {
        WatchServer x = fullOfItems();
        CHECK.refused(x, "one more", -8, () -> x.item(0, 0, 1, 1, 1, true, 2, 0));
        CHECK.refused(x, "the number is told first", -7, () -> x.item(0, 0, 1, 1, 9, true, 2, 0));
        CHECK.refused(x, "the NODE before it", -4, () -> x.item(0, 0, 0, 1, 9, true, 2, 0));
        CHECK.refused(x, "the SUBSCRIPTION before it", -5, () -> x.item(0, 1, 0, 1, 9, true, 2, 0));
        CHECK.refused(x, "the SESSION before it", -3, () -> x.item(3, 1, 0, 1, 9, true, 2, 0));
    }

    private static void whatItWas() {
        WatchServer x = Scene.client();
        x.subscribe(0, 100, 1, 100, 0);
        x.item(0, 0, 1, 1, 8, true, 0, 0);
        int[] modes = {0, 1, 1, 2, 2, 0, 2, 1, 0};
        for (int k = 1; k < modes.length; k++) {
            CHECK.due("what it was", x.mode(0, 0, modes[k]), modes[k - 1]);
            CHECK.due("what it is", x.itemOf(0, 2), modes[k]);
        }
    }

    private static void fromOff() {
        WatchServer x = Scene.client();
        x.subscribe(0, 100, 1, 100, 0);
        x.item(0, 0, 1, 100, 8, true, 2, 0);
        x.tick(1);
        for (int mode = 1; mode <= 2; mode++) {
            x.mode(0, 0, 0);
            x.mode(0, 0, mode);
            CHECK.due("the same VALUE, as a first one", x.itemOf(0, 3), 1);
            x.change(1, mode);
            x.mode(0, 0, 3 - mode);
            CHECK.due("from MODE " + mode + " it is not SAMPLED", x.itemOf(0, 3), 1);
        }
        x.tick(98);
        x.mode(0, 0, 0);
        x.mode(0, 0, 2);
        x.tick(1);
        x.publish(0, -1, 0);
        CHECK.due("one entry", x.message(0, 2), 1);
        CHECK.due("its VALUE", x.entry(0, 0, 0), 2);
        CHECK.due("its TIME", x.entry(0, 0, 2), 99);
    }

    private static void toOff() {
        WatchServer x = Scene.client();
        x.subscribe(0, 100, 1, 100, 0);
        for (int mode = 0; mode <= 2; mode++) {
            x.item(0, 0, 1, 1, 2, true, mode, 0);
        }
        Scene.changeAndTick(x, 1);
        Scene.changeAndTick(x, 2);
        CHECK.due("full before", x.itemOf(1, 3) + x.itemOf(2, 3), 4);
        for (int i = 0; i <= 2; i++) {
            x.mode(0, i, 0);
            CHECK.due("empty, from MODE " + i, x.itemOf(i, 3), 0);
            CHECK.due("no BIT", x.itemOf(i, 4), 0);
        }
        Scene.changeAndTick(x, 3);
        CHECK.due("it stays empty", x.itemOf(1, 3) + x.itemOf(2, 3), 0);
        x.mode(0, 1, 2);
        CHECK.due("the BIT does not come again", x.itemOf(1, 4), 0);
    }

    private static void modeSessions() {
        WatchServer x = twoOwners();
        CHECK.refusesSessions(x, "mode", s -> x.mode(s, 0, 1));
        CHECK.refusesSessions(x, "mode, all wrong", s -> x.mode(s, 9, 9));
        CHECK.due("else it is", x.mode(0, 0, 1), 2);
    }

    private static void modeOthers() {
        WatchServer x = twoOwners();
        for (int i : NONE_SUCH) {
            CHECK.refused(x, "ITEM " + i, -6, () -> x.mode(0, i, 1));
        }
        CHECK.refused(x, "another SESSION's", -6, () -> x.mode(0, 1, 1));
        CHECK.refused(x, "another SESSION's before the number", -6, () -> x.mode(1, 0, 3));
        x.unsubscribe(0, 0);
        CHECK.refused(x, "of a SUBSCRIPTION that is no more", -6, () -> x.mode(0, 0, 1));
    }

    private static void modeNumbers() {
        WatchServer x = twoOwners();
        for (int mode : new int[] {3, -1, Integer.MIN_VALUE, Integer.MAX_VALUE}) {
            CHECK.refused(x, "MODE " + mode, -7, () -> x.mode(0, 0, mode));
        }
    }

    private static void drops() {
        WatchServer x = twoOwners();
        x.item(0, 0, 2, 1, 1, true, 1, 0);
        x.drop(0, 0);
        CHECK.due("it is no more", x.itemOf(0, 0), -9);
        CHECK.due("ITEMS of the SUBSCRIPTION", x.subscription(0, 6), 1);
        CHECK.due("ITEMS", x.status(5), 2);
        CHECK.due("the one behind it stays", x.itemOf(3, 1), 2);
        CHECK.due("LATE: a sign of life", x.publish(0, -1, 0), 1);
        CHECK.due("without its entries", x.message(0, 2), 0);
        CHECK.refused(x, "twice", -6, () -> x.drop(0, 0));
    }

    private static void dropEntries() {
        WatchServer x = Scene.client();
        x.subscribe(0, 100, 1, 100, 0);
        for (int i = 0; i < 4; i++) {
            x.item(0, 0, 1, 1, i == 3 ? 1 : 8, true, i % 3, 0);
        }
        x.mode(0, 3, 1);
        for (int v = 1; v <= 9; v++) {
            Scene.changeAndTick(x, v);
        }
        int[] due = {0, 8, 8, 1};
        for (int i = 0; i < 4; i++) {
            CHECK.due("entries of " + i, x.drop(0, i), due[i]);
        }
    }

    private static void dropSessions() {
        WatchServer x = twoOwners();
        CHECK.refusesSessions(x, "drop", s -> x.drop(s, 0));
        CHECK.refusesSessions(x, "drop of none", s -> x.drop(s, 9));
        CHECK.due("else it is", x.drop(0, 0), 1);
    }

    private static void dropOthers() {
        WatchServer x = twoOwners();
        for (int i : NONE_SUCH) {
            CHECK.refused(x, "ITEM " + i, -6, () -> x.drop(0, i));
        }
        CHECK.refused(x, "another SESSION's", -6, () -> x.drop(0, 1));
        x.unsubscribe(0, 0);
        CHECK.refused(x, "of a SUBSCRIPTION that is no more", -6, () -> x.drop(0, 0));
    }

    private static void shownWhileThere() {
        WatchServer x = twoOwners();
        int[] due = {1, 1, 2, 1, 0};
        for (int k = 0; k <= 4; k++) {
            int what = k;
            CHECK.tells(x, "what " + what, due[what], () -> x.itemOf(1, what));
            CHECK.tells(x, "dropped, what " + what, -9, () -> x.itemOf(2, what));
        }
        x.unsubscribe(1, 1);
        for (int what = 0; what <= 4; what++) {
            CHECK.due("its SUBSCRIPTION is no more, what " + what, x.itemOf(1, what), -9);
        }
    }

    private static void shownBit() {
        WatchServer x = Scene.client();
        x.subscribe(0, 100, 1, 100, 0);
        x.item(0, 0, 1, 1, 2, true, 1, 0);
        x.item(0, 0, 1, 1, 2, false, 1, 0);
        x.item(0, 0, 1, 1, 2, true, 0, 0);
        Scene.changeAndTick(x, 1);
        CHECK.due("OLDEST, full", x.itemOf(0, 4), 0);
        Scene.changeAndTick(x, 2);
        CHECK.due("OLDEST: the first one has it", x.itemOf(0, 4), 1);
        CHECK.due("newest: the last one has it", x.itemOf(1, 4), 0);
        CHECK.due("an empty QUEUE", x.itemOf(2, 4), 0);
    }

    private static void shownNone() {
        WatchServer x = twoOwners();
        for (int i : NONE_SUCH) {
            CHECK.tells(x, "ITEM " + i, -9, () -> x.itemOf(i, 0));
        }
    }

    private static void shownWhat() {
        WatchServer x = twoOwners();
        for (int what : new int[] {5, -1, Integer.MIN_VALUE, Integer.MAX_VALUE}) {
            CHECK.tells(x, "what " + what, -9, () -> x.itemOf(0, what));
        }
    }
}

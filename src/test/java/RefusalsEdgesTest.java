import java.util.ArrayList;
import java.util.List;
import java.util.function.LongSupplier;

/** The boundary cases that the document names of REFUSALS (Terms) and status (promise 30), a test each. */
public final class RefusalsEdgesTest {
    private static final Check CHECK = new Check();
    private static final String TERMS = "Terms";

    public static void main(String[] args) {
        CHECK.sentence(TERMS, "the first that fits in the order in which it tells them", RefusalsEdgesTest::order);
        CHECK.sentence(TERMS, "nothing else changes but how many there were", RefusalsEdgesTest::nothingElse);
        CHECK.sentence(TERMS, "-1 NOBODY: no such SESSION.", () -> counted(1));
        CHECK.sentence(TERMS, "-2 CLOSED.", () -> counted(2));
        CHECK.sentence(TERMS, "-3 NEW: it is not ACTIVE.", () -> counted(3));
        CHECK.sentence(TERMS, "-4 NODE: no such NODE, or none that fits.", () -> counted(4));
        CHECK.sentence(TERMS, "-5 OTHER: no such SUBSCRIPTION, or of another SESSION.", () -> counted(5));
        CHECK.sentence(TERMS, "-6 ITEM: no such ITEM, or of another SESSION's SUBSCRIPTION.", () -> counted(6));
        CHECK.sentence(TERMS, "-7 NUMBER: a number that may not be.", () -> counted(7));
        CHECK.sentence(TERMS, "-8 ROOM.", () -> counted(8));
        CHECK.sentence(TERMS, "-9 NOTHING: what is asked for is not there.", () -> counted(9));
        status();
        CHECK.done();
    }

    private static void status() {
        String last = "Promise 30: status";
        CHECK.sentence(last, "0 TIME", RefusalsEdgesTest::time);
        CHECK.sentence(last, "1 NODES, 2 REFERENCES", RefusalsEdgesTest::nodesAndReferences);
        CHECK.sentence(last, "3 SESSIONS that are not CLOSED", RefusalsEdgesTest::sessionsNotClosed);
        CHECK.sentence(last, "4 SUBSCRIPTIONS that there are", RefusalsEdgesTest::subscriptionsThatAre);
        CHECK.sentence(last, "5 ITEMS that there are", RefusalsEdgesTest::itemsThatAre);
        CHECK.sentence(last, "6 MESSAGES", RefusalsEdgesTest::messages);
        CHECK.sentence(last, "11 .. 19 REFUSALS -1 .. -9", RefusalsEdgesTest::refusalsShown);
        CHECK.sentence(last, "-9 for another what.", RefusalsEdgesTest::otherWhats);
    }

    /**
     * As full as the document lets it be: 40 NODES (0 an OBJECT, 1 not to be written), 100 REFERENCES, 12 SESSIONS (0
     * and 1 ACTIVE, 2 CLOSED, 3 NEW), 20 SUBSCRIPTIONS (0 and 2 to 19 of SESSION 0, 1 of SESSION 1), 60 ITEMS (0 of
     * SUBSCRIPTION 0, 1 of 1, then of 0), MESSAGES 0 and 1 of SUBSCRIPTION 0 KEPT, 4 REQUESTS and 200 in the MAIL of
     * SESSION 0.
     */
    private static WatchServer full() {
        WatchServer x = Scene.clients();
        for (int k = 3; k < 40; k++) {
            x.node(2);
        }
        for (int k = 0; k < 100; k++) {
            x.refer(0, 1, 0);
        }
        for (int s = 4; s < 12; s++) {
            x.session(1000);
        }
        for (int sub = 0; sub < 20; sub++) {
            x.subscribe(sub == 1 ? 1 : 0, sub == 0 ? 1 : 100, 20, 100, 0);
        }
        for (int i = 0; i < 60; i++) {
            x.item(i == 1 ? 1 : 0, i == 1 ? 1 : 0, 1, 1, 1, true, 2, 0);
        }
        for (int k = 0; k < 4; k++) {
            x.publish(0, -1, 0);
        }
        x.tick(1);
        fillMail(x);
        return x;
    }

    private static void fillMail(WatchServer x) {
        for (int k = x.sessionOf(0, 4); k < 200; k++) {
            x.again(0, 0, 1);
        }
        for (int k = x.sessionOf(0, 2); k < 4; k++) {
            x.publish(0, -1, 0);
        }
        x.activate(1);
    }

    /** Each call with all wrong that it can tell at once, then one thing after the other right. */
    private static void order() {
        WatchServer x = full();
        answers("node", new int[] {-7, -8}, () -> x.node(3), () -> x.node(0));
        answers("refer", new int[] {-4, -7, -8}, () -> x.refer(0, 40, 8), () -> x.refer(0, 1, 8),
            () -> x.refer(0, 1, 7));
        answers("session", new int[] {-7, -8}, () -> x.session(0), () -> x.session(1));
        answers("browse", new int[] {-1, -2, -3, -4, -7, -9}, () -> x.browse(12, 40, 3, 2, 0),
            () -> x.browse(2, 40, 3, 2, 0), () -> x.browse(3, 40, 3, 2, 0), () -> x.browse(0, 40, 3, 2, 0),
            () -> x.browse(0, 0, 3, 2, 0), () -> x.browse(0, 0, 2, 2, 0));
        answers("read", new int[] {-1, -2, -3, -4}, () -> x.read(12, 0), () -> x.read(2, 0), () -> x.read(3, 0),
            () -> x.read(0, 0));
        answers("write", new int[] {-1, -2, -3, -4}, () -> x.write(12, 1, 1), () -> x.write(2, 1, 1),
            () -> x.write(3, 1, 1), () -> x.write(0, 1, 1));
        answers("subscribe", new int[] {-1, -2, -3, -7, -8}, () -> x.subscribe(12, 0, 1, 3, 0),
            () -> x.subscribe(2, 0, 1, 3, 0), () -> x.subscribe(3, 0, 1, 3, 0), () -> x.subscribe(0, 0, 1, 3, 0),
            () -> x.subscribe(0, 1, 1, 3, 0));
        answers("modify", new int[] {-1, -2, -3, -5, -7}, () -> x.modify(12, 1, 0, 1, 3, 0),
            () -> x.modify(2, 1, 0, 1, 3, 0), () -> x.modify(3, 1, 0, 1, 3, 0), () -> x.modify(0, 1, 0, 1, 3, 0),
            () -> x.modify(0, 0, 0, 1, 3, 0));
        answers("turn", new int[] {-1, -2, -3, -5}, () -> x.turn(12, 1, false), () -> x.turn(2, 1, false),
            () -> x.turn(3, 1, false), () -> x.turn(0, 1, false));
        answers("transfer", new int[] {-1, -2, -3, -5}, () -> x.transfer(12, 20), () -> x.transfer(2, 20),
            () -> x.transfer(3, 20), () -> x.transfer(0, 20));
        answers("unsubscribe", new int[] {-1, -2, -3, -5}, () -> x.unsubscribe(12, 1), () -> x.unsubscribe(2, 1),
            () -> x.unsubscribe(3, 1), () -> x.unsubscribe(0, 1));
        orderOfItems(x);
        orderOfMessages(x);
        orderOfTicks();
    }

    private static void orderOfItems(WatchServer x) {
        answers("item", new int[] {-1, -2, -3, -5, -4, -7, -8}, () -> x.item(12, 1, 0, 0, 1, true, 2, 0),
            () -> x.item(2, 1, 0, 0, 1, true, 2, 0), () -> x.item(3, 1, 0, 0, 1, true, 2, 0),
            () -> x.item(0, 1, 0, 0, 1, true, 2, 0), () -> x.item(0, 0, 0, 0, 1, true, 2, 0),
            () -> x.item(0, 0, 1, 0, 1, true, 2, 0), () -> x.item(0, 0, 1, 1, 1, true, 2, 0));
        answers("mode", new int[] {-1, -2, -3, -6, -7}, () -> x.mode(12, 1, 3), () -> x.mode(2, 1, 3),
            () -> x.mode(3, 1, 3), () -> x.mode(0, 1, 3), () -> x.mode(0, 0, 3));
        answers("drop", new int[] {-1, -2, -3, -6}, () -> x.drop(12, 1), () -> x.drop(2, 1), () -> x.drop(3, 1),
            () -> x.drop(0, 1));
    }

    private static void orderOfMessages(WatchServer x) {
        answers("activate", new int[] {-1, -2}, () -> x.activate(12), () -> x.activate(2));
        answers("close", new int[] {-1, -2, -3}, () -> x.close(12), () -> x.close(2), () -> x.close(3));
        answers("again", new int[] {-1, -2, -3, -5, -9, -8}, () -> x.again(12, 1, 9), () -> x.again(2, 1, 9),
            () -> x.again(3, 1, 9), () -> x.again(0, 1, 9), () -> x.again(0, 0, 9), () -> x.again(0, 0, 1));
        answers("publish", new int[] {-1, -2, -3, -8}, () -> x.publish(12, 0, 1), () -> x.publish(2, 0, 1),
            () -> x.publish(3, 0, 1), () -> x.publish(0, 0, 1));
        for (int sub = 0; sub < 20; sub++) {
            x.unsubscribe(0, sub);
        }
        answers("publish without a SUBSCRIPTION, 4 REQUESTS wait", new int[] {-9}, () -> x.publish(0, 0, 1));
    }

    private static void orderOfTicks() {
        WatchServer x = new WatchServer();
        for (int k = 0; k < 100; k++) {
            x.tick(1000);
        }
        answers("tick", new int[] {-7, -7, -8}, () -> x.tick(0), () -> x.tick(1001), () -> x.tick(1));
    }

    private static void answers(String what, int[] due, LongSupplier... calls) {
        CHECK.due(what + ": how many", calls.length, due.length);
        for (int k = 0; k < due.length; k++) {
            CHECK.due(what + ", " + k + " right", calls[k].getAsLong(), due[k]);
        }
    }

    /** Calls of a full() object that are refused with -1 (place 1) to -9 (place 9). */
    private static List<List<LongSupplier>> refusedCalls(WatchServer x) {
        List<List<LongSupplier>> calls = new ArrayList<>();
        for (int k = 0; k <= 9; k++) {
            calls.add(new ArrayList<>());
        }
        int[] refusedSessions = {0, 12, 2, 3};
        for (int k = 1; k <= 3; k++) {
            calls.get(k).addAll(services(x, refusedSessions[k]));
        }
        calls.get(1).add(() -> x.activate(12));
        calls.get(2).add(() -> x.activate(2));
        calls.get(4).addAll(List.of(() -> x.refer(40, 0, 0), () -> x.refer(0, -1, 0), () -> x.change(0, 3),
            () -> x.change(40, 3), () -> x.browse(0, 40, 0, 1, 0), () -> x.read(0, 0), () -> x.write(0, 0, 3),
            () -> x.write(0, 1, 3), () -> x.item(0, 0, 0, 1, 1, true, 2, 0), () -> x.item(0, 0, 40, 1, 1, true, 2, 0)));
        calls.get(5).addAll(List.of(() -> x.modify(0, 1, 1, 1, 3, 0), () -> x.turn(0, 1, false),
            () -> x.transfer(0, 20), () -> x.unsubscribe(0, 1), () -> x.item(0, 1, 1, 1, 1, true, 2, 0),
            () -> x.again(0, 1, 1), () -> x.modify(0, 20, 1, 1, 3, 0), () -> x.turn(0, -1, false),
            () -> x.unsubscribe(0, 20)));
        calls.get(6).addAll(List.of(() -> x.mode(0, 1, 0), () -> x.mode(0, 60, 0), () -> x.drop(0, 1),
            () -> x.drop(0, 60)));
        calls.get(7).addAll(List.of(() -> x.node(3), () -> x.refer(0, 1, 8), () -> x.tick(0), () -> x.tick(1001),
            () -> x.session(0), () -> x.browse(0, 0, 3, 1, 0), () -> x.subscribe(0, 1, 1, 2, 0),
            () -> x.modify(0, 0, 1, 1, 2, 0), () -> x.item(0, 0, 1, 1, 1, true, 3, 0), () -> x.mode(0, 0, 3)));
        calls.get(8).addAll(List.of(() -> x.node(0), () -> x.refer(0, 1, 0), () -> x.session(1),
            () -> x.subscribe(0, 1, 1, 3, 0), () -> x.item(0, 0, 1, 1, 1, true, 2, 0), () -> x.publish(0, 0, 1),
            () -> x.again(0, 0, 1)));
        calls.get(9).addAll(List.of(() -> x.browse(0, 0, 0, 1, 100), () -> x.browse(0, 0, 1, 1, 0),
            () -> x.again(0, 0, 3)));
        return calls;
    }

    /** Each SERVICE but activate, with arguments that are right for SESSION 0 as far as there is room. */
    private static List<LongSupplier> services(WatchServer x, int s) {
        List<LongSupplier> calls = new ArrayList<>();
        calls.addAll(List.of(() -> x.close(s), () -> x.browse(s, 0, 0, 1, 0), () -> x.read(s, 1),
            () -> x.write(s, 2, 3), () -> x.subscribe(s, 1, 1, 3, 0), () -> x.modify(s, 0, 1, 1, 3, 0),
            () -> x.turn(s, 0, false), () -> x.transfer(s, 0), () -> x.unsubscribe(s, 0)));
        calls.addAll(List.of(() -> x.item(s, 0, 1, 1, 1, true, 2, 0), () -> x.mode(s, 0, 0), () -> x.drop(s, 0),
            () -> x.publish(s, 0, 1), () -> x.again(s, 0, 1)));
        return calls;
    }

    private static void counted(int refusal) {
        WatchServer x = full();
        List<LongSupplier> calls = refusedCalls(x).get(refusal);
        int before = x.status(10 + refusal);
        int others = allRefusals(x) - before;
        for (int k = 0; k < calls.size(); k++) {
            CHECK.due("call " + k, calls.get(k).getAsLong(), -refusal);
            CHECK.due("how many there were", x.status(10 + refusal) - before, k + 1);
        }
        CHECK.due("of the others as many as before", allRefusals(x) - x.status(10 + refusal), others);
    }

    private static int allRefusals(WatchServer x) {
        int all = 0;
        for (int what = 11; what <= 19; what++) {
            all += x.status(what);
        }
        return all;
    }

    /** A twin that was not asked what is refused goes on the same way, in what no view shows too. */
    private static void nothingElse() {
        WatchServer x = full();
        WatchServer twin = full();
        x.read(0, 1);
        twin.read(0, 1);
        CHECK.sameView("before", x, View.of(twin));
        for (List<LongSupplier> calls : refusedCalls(x)) {
            for (LongSupplier call : calls) {
                call.getAsLong();
                CHECK.sameView("after a refused call", x, View.of(twin));
            }
        }
        for (int node = 1; node < 40; node++) {
            CHECK.due("VALUE " + node, x.read(0, node) + x.value(), twin.read(0, node) + twin.value());
        }
        for (int i = 0; i <= 100; i++) {
            CHECK.due("REFERENCE " + i, x.browse(0, 0, 2, 255, i), twin.browse(0, 0, 2, 255, i));
        }
        for (int k = 0; k < 130; k++) {
            x.change(1, k);
            twin.change(1, k);
            CHECK.due("TICK " + k, x.tick(1), twin.tick(1));
            CHECK.sameView("TICK " + k, x, View.of(twin));
            CHECK.due("publish " + k, x.publish(0, 0, k), twin.publish(0, 0, k));
            CHECK.sameView("publish " + k, x, View.of(twin));
        }
    }

    private static void time() {
        WatchServer x = new WatchServer();
        CHECK.due("at first", x.status(0), 0);
        x.tick(1000);
        x.tick(1);
        CHECK.due("then", x.status(0), 1001);
        x.tick(0);
        CHECK.due("a refused tick", x.status(0), 1001);
    }

    private static void nodesAndReferences() {
        WatchServer x = new WatchServer();
        for (int k = 0; k <= 2; k++) {
            CHECK.due("NODES", x.status(1), k);
            x.node(k);
            x.node(3);
        }
        for (int k = 0; k <= 2; k++) {
            CHECK.due("REFERENCES", x.status(2), k);
            x.refer(k, k, k);
            x.refer(k, k, 8);
        }
        CHECK.due("all kinds of NODES", x.status(1), 3);
    }

    private static void sessionsNotClosed() {
        WatchServer x = new WatchServer();
        for (int s = 0; s < 12; s++) {
            x.session(s < 6 ? 5 : 1000);
            CHECK.due("NEW ones too", x.status(3), s + 1);
        }
        x.activate(11);
        CHECK.due("ACTIVE ones too", x.status(3), 12);
        x.close(11);
        CHECK.due("not the one that was closed", x.status(3), 11);
        x.tick(5);
        CHECK.due("nor those that timed out", x.status(3), 5);
    }

    private static void subscriptionsThatAre() {
        WatchServer x = Scene.clients();
        CHECK.due("none", x.status(4), 0);
        for (int sub = 0; sub < 6; sub++) {
            x.subscribe(sub % 2, sub == 4 ? 1 : 100, 1, 3, 0);
        }
        CHECK.due("of all SESSIONS", x.status(4), 6);
        x.transfer(0, 1);
        CHECK.due("transferred", x.status(4), 6);
        x.unsubscribe(0, 0);
        CHECK.due("unsubscribed", x.status(4), 5);
        x.tick(3);
        CHECK.due("its LIFE was over", x.status(4), 4);
        x.close(1);
        CHECK.due("its SESSION is CLOSED", x.status(4), 2);
    }

    private static void itemsThatAre() {
        WatchServer x = Scene.clients();
        CHECK.due("none", x.status(5), 0);
        for (int sub = 0; sub < 4; sub++) {
            x.subscribe(sub == 3 ? 1 : 0, sub == 2 ? 1 : 100, 1, 3, 0);
            for (int mode = 0; mode <= 2; mode++) {
                x.item(sub == 3 ? 1 : 0, sub, 1, 1, 1, true, mode, 0);
            }
        }
        CHECK.due("in all MODES, of all SUBSCRIPTIONS", x.status(5), 12);
        x.drop(0, 0);
        CHECK.due("dropped", x.status(5), 11);
        x.unsubscribe(0, 1);
        CHECK.due("unsubscribed", x.status(5), 8);
        x.tick(3);
        CHECK.due("its LIFE was over", x.status(5), 5);
        x.close(1);
        CHECK.due("its SESSION is CLOSED", x.status(5), 2);
    }

    private static void messages() {
        WatchServer x = Scene.watcher(1, 1, 100, 0);
        CHECK.due("none", x.status(6), 0);
        x.publish(0, -1, 0);
        x.publish(0, -1, 0);
        CHECK.due("REQUESTS are none", x.status(6), 0);
        x.tick(1);
        CHECK.due("VALUES", x.status(6), 1);
        x.tick(1);
        CHECK.due("signs of life too", x.status(6), 2);
        x.again(0, 0, 1);
        CHECK.due("the same one again is none", x.status(6), 2);
        x.close(0);
        CHECK.due("all that were made", x.status(6), 2);
    }

    private static void refusalsShown() {
        WatchServer x = full();
        List<List<LongSupplier>> calls = refusedCalls(x);
        for (int k = 1; k <= 9; k++) {
            int before = x.status(10 + k);
            for (int times = 0; times < k; times++) {
                calls.get(k).get(0).getAsLong();
            }
            CHECK.due("status " + (10 + k), x.status(10 + k), before + k);
        }
        WatchServer y = new WatchServer();
        for (int what = 11; what <= 19; what++) {
            CHECK.due("none at first", y.status(what), 0);
        }
    }

    private static void otherWhats() {
        WatchServer x = Scene.clients();
        for (int what : new int[] {-1, 7, 8, 9, 10, 20, 21, Integer.MIN_VALUE, Integer.MIN_VALUE + 9,
            Integer.MIN_VALUE + 19, Integer.MAX_VALUE}) {
            CHECK.tells(x, "status " + what, -9, () -> x.status(what));
        }
    }
}

import java.util.function.LongSupplier;

/** Promises 6 to 8 and 27: session, activate, close, sessionOf; and how SESSIONS time out. */
public final class SessionsTest {
    private static final Check CHECK = new Check();

    public static void main(String[] args) {
        making();
        full();
        activating();
        closing();
        closingTakesWhatItHas();
        timingOut();
        servicesRenew();
        refusalsRenewFromFourOn();
        views();
        CHECK.done();
    }

    private static void making() {
        WatchServer x = new WatchServer();
        CHECK.due("shortest TIMEOUT", x.session(1), 0);
        CHECK.due("longest TIMEOUT", x.session(1000), 1);
        CHECK.due("it is NEW", x.sessionOf(1, 0), 0);
        CHECK.due("its END", x.sessionOf(1, 1), 1000);
        CHECK.refused(x, "TIMEOUT 0", -7, () -> x.session(0));
        CHECK.refused(x, "TIMEOUT 1001", -7, () -> x.session(1001));
        CHECK.refused(x, "TIMEOUT -1", -7, () -> x.session(-1));
        CHECK.due("SESSIONS", x.status(3), 2);
    }

    private static void full() {
        WatchServer x = new WatchServer();
        for (int s = 0; s < 12; s++) {
            CHECK.due("session " + s, x.session(10), s);
        }
        x.activate(0);
        x.close(0);
        CHECK.refused(x, "12 ever, CLOSED ones too", -8, () -> x.session(10));
        CHECK.refused(x, "TIMEOUT before room", -7, () -> x.session(0));
        CHECK.due("the 12th is there", x.activate(11), 1);
        CHECK.refused(x, "no 13th", -1, () -> x.activate(12));
    }

    private static void activating() {
        WatchServer x = new WatchServer();
        x.session(10);
        x.tick(4);
        CHECK.due("a NEW one grows older", x.sessionOf(0, 1), 6);
        CHECK.due("activate", x.activate(0), 1);
        CHECK.due("it is ACTIVE", x.sessionOf(0, 0), 1);
        CHECK.due("END anew", x.sessionOf(0, 1), 10);
        x.tick(3);
        CHECK.due("once more", x.activate(0), 1);
        CHECK.due("END anew once more", x.sessionOf(0, 1), 10);
        CHECK.refused(x, "SESSION -1", -1, () -> x.activate(-1));
        CHECK.refused(x, "SESSION 1", -1, () -> x.activate(1));
        x.close(0);
        CHECK.refused(x, "a CLOSED one", -2, () -> x.activate(0));
    }

    private static void closing() {
        WatchServer x = Scene.clients();
        CHECK.refused(x, "none", -1, () -> x.close(4));
        CHECK.refused(x, "SESSION -1", -1, () -> x.close(-1));
        CHECK.refused(x, "CLOSED", -2, () -> x.close(2));
        CHECK.refused(x, "NEW", -3, () -> x.close(3));
        CHECK.due("without SUBSCRIPTIONS", x.close(1), 0);
        CHECK.due("it is CLOSED", x.sessionOf(1, 0), 2);
        CHECK.due("SESSIONS that are not CLOSED", x.status(3), 2);
        x.tick(5);
        x.close(0);
        CHECK.due("closing is a SERVICE: END anew", x.sessionOf(0, 1), 1000);
    }

    private static void closingTakesWhatItHas() {
        WatchServer x = Scene.clients();
        for (int sub = 0; sub < 3; sub++) {
            x.subscribe(0, 1, 1, 9, 0);
        }
        x.subscribe(1, 1, 1, 9, 0);
        x.unsubscribe(0, 1);
        x.item(0, 0, 1, 1, 1, true, 2, 0);
        x.item(0, 2, 1, 1, 1, true, 2, 0);
        x.item(1, 3, 1, 1, 1, true, 2, 0);
        x.publish(0, -1, 0);
        x.publish(0, -1, 0);
        x.publish(0, -1, 0);
        CHECK.due("two are answered", x.tick(1), 2);
        CHECK.due("MESSAGE 0 is KEPT", x.message(0, 5), 1);
        CHECK.due("one waits", x.sessionOf(0, 2), 1);
        CHECK.due("those of it that there are", x.close(0), 2);
        CHECK.due("its SUBSCRIPTIONS", x.sessionOf(0, 3), 0);
        CHECK.due("its REQUESTS", x.sessionOf(0, 2), 0);
        CHECK.due("its MAIL stays", x.sessionOf(0, 4), 2);
        CHECK.due("its MAIL can be looked at", x.mail(0, 1), 1);
        CHECK.due("its MESSAGES are KEPT no more", x.message(0, 5), 0);
        CHECK.due("the other's SUBSCRIPTION stays", x.subscription(3, 0), 1);
        CHECK.due("one SUBSCRIPTION", x.status(4), 1);
        CHECK.due("one ITEM", x.status(5), 1);
        CHECK.due("its ITEM is no more", x.itemOf(0, 0), -9);
        CHECK.due("the other's is", x.itemOf(2, 0), 3);
    }

    private static void timingOut() {
        WatchServer x = new WatchServer();
        x.node(1);
        x.session(5);
        x.session(5);
        x.session(6);
        x.activate(0);
        x.subscribe(0, 5, 1, 9, 0);
        x.item(0, 0, 0, 5, 4, true, 2, 0);
        x.publish(0, -1, 0);
        x.publish(0, -1, 0);
        x.tick(4);
        CHECK.due("before END", x.sessionOf(0, 0), 1);
        CHECK.due("END less TIME", x.sessionOf(0, 1), 1);
        x.change(0, 3);
        CHECK.due("at END it is SAMPLED and publishes first", x.tick(1), 1);
        CHECK.due("both entries", x.message(0, 2), 2);
        CHECK.due("its MAIL", x.mail(0, 0), 0);
        CHECK.due("ACTIVE, CLOSED now", x.sessionOf(0, 0), 2);
        CHECK.due("NEW, CLOSED now", x.sessionOf(1, 0), 2);
        CHECK.due("one with a later END", x.sessionOf(2, 0), 0);
        CHECK.due("END is TIME", x.sessionOf(0, 1), 0);
        CHECK.due("REQUESTS gone", x.sessionOf(0, 2), 0);
        CHECK.due("SUBSCRIPTIONS no more", x.sessionOf(0, 3), 0);
        CHECK.due("none at all", x.status(4) + x.status(5), 0);
        CHECK.due("KEPT no more", x.message(0, 5), 0);
        CHECK.refused(x, "it is CLOSED", -2, () -> x.activate(1));
        x.tick(2);
        CHECK.due("END less TIME below 0", x.sessionOf(0, 1), -2);
    }

    /** Each SERVICE that is not refused makes END anew; the views do not. */
    private static void servicesRenew() {
        WatchServer x = Scene.client();
        x.refer(0, 1, 0);
        x.subscribe(0, 1, 1, 100, 0);
        renews("activate", x, () -> x.activate(0));
        renews("browse", x, () -> x.browse(0, 0, 0, 1, 0));
        renews("read", x, () -> x.read(0, 1));
        renews("write", x, () -> x.write(0, 2, 1));
        renews("subscribe", x, () -> x.subscribe(0, 9, 1, 100, 0));
        renews("modify", x, () -> x.modify(0, 0, 1, 1, 100, 0));
        renews("turn", x, () -> x.turn(0, 0, true));
        renews("transfer", x, () -> x.transfer(0, 0));
        renews("item", x, () -> x.item(0, 0, 1, 1, 1, true, 2, 0));
        renews("mode", x, () -> x.mode(0, 0, 1));
        renews("drop", x, () -> x.drop(0, 0));
        x.item(0, 0, 1, 1, 1, true, 2, 0);
        renews("publish", x, () -> x.publish(0, -1, 0));
        renews("again", x, () -> x.again(0, 0, 1));
        renews("unsubscribe", x, () -> x.unsubscribe(0, 0));
        x.tick(1);
        x.change(1, 2);
        x.value();
        x.acknowledged();
        x.mail(0, 0);
        x.status(0);
        CHECK.due("what is no SERVICE leaves END", x.sessionOf(0, 1), 999);
    }

    private static void renews(String service, WatchServer x, LongSupplier call) {
        x.tick(1);
        CHECK.due("before " + service, x.sessionOf(0, 1), 999);
        CHECK.due(service + " is not refused", Math.min(call.getAsLong(), 0), 0);
        CHECK.due(service + " makes END anew", x.sessionOf(0, 1), 1000);
    }

    private static void refusalsRenewFromFourOn() {
        WatchServer x = Scene.client();
        x.tick(7);
        CHECK.due("-4", x.read(0, 9), -4);
        CHECK.due("END anew by -4", x.sessionOf(0, 1), 1000);
        x.tick(7);
        CHECK.due("-9", x.publish(0, -1, 0), -9);
        CHECK.due("END anew by -9", x.sessionOf(0, 1), 1000);
        x.session(10);
        x.tick(3);
        CHECK.due("-3", x.read(1, 1), -3);
        CHECK.due("END as it was by -3", x.sessionOf(1, 1), 7);
        x.close(0);
        x.tick(2);
        CHECK.due("-2", x.read(0, 1), -2);
        CHECK.due("END as it was by -2", x.sessionOf(0, 1), 998);
    }

    private static void views() {
        WatchServer x = Scene.clients();
        CHECK.tells(x, "ACTIVE", 1, () -> x.sessionOf(0, 0));
        CHECK.tells(x, "CLOSED", 2, () -> x.sessionOf(2, 0));
        CHECK.tells(x, "NEW", 0, () -> x.sessionOf(3, 0));
        CHECK.tells(x, "no SESSION 4", -9, () -> x.sessionOf(4, 0));
        CHECK.tells(x, "no SESSION -1", -9, () -> x.sessionOf(-1, 0));
        CHECK.tells(x, "what -1", -9, () -> x.sessionOf(0, -1));
        CHECK.tells(x, "what 5", -9, () -> x.sessionOf(0, 5));
        x.subscribe(1, 100, 1, 3, 0);
        x.publish(1, -1, 0);
        x.publish(1, -1, 0);
        CHECK.due("REQUESTS", x.sessionOf(1, 2), 2);
        CHECK.due("SUBSCRIPTIONS", x.sessionOf(1, 3), 1);
        CHECK.due("the other's REQUESTS", x.sessionOf(0, 2), 0);
        CHECK.due("the other's SUBSCRIPTIONS", x.sessionOf(0, 3), 0);
    }
}

import java.util.Random;

/** Any arguments in any state: no call throws, and what is shown fits together and within the document's limits. */
public final class AnyCallsTest {
    private static final Check CHECK = new Check();
    private static final int[] EDGES = {Integer.MIN_VALUE, -1000, -10, -9, -2, -1, 0, 1, 2, 3, 5, 7, 8, 9, 10, 11, 12, 19,
        20, 21, 39, 40, 41, 59, 60, 61, 99, 100, 101, 199, 200, 899, 900, 901, 1000, 1001, 100000, Integer.MAX_VALUE};
    private static final long[] LONG_EDGES = {Long.MIN_VALUE, Long.MIN_VALUE + 1, -1, 0, 1, 2, Long.MAX_VALUE - 1,
        Long.MAX_VALUE};

    private final Random random;
    private final WatchServer x = new WatchServer();
    private final boolean edges;

    private AnyCallsTest(long seed, boolean edges) {
        this.random = new Random(seed);
        this.edges = edges;
    }

    public static void main(String[] args) {
        for (int seed = 0; seed < 200; seed++) {
            new AnyCallsTest(seed, true).run(512);
            new AnyCallsTest(seed, false).run(512);
        }
        new AnyCallsTest(1000, false).run(20000);
        sameCallsSameAnswers();
        CHECK.done();
    }

    private void run(int calls) {
        for (int k = 0; k < calls; k++) {
            call();
        }
        fits();
    }

    private static void sameCallsSameAnswers() {
        AnyCallsTest one = new AnyCallsTest(7, false);
        AnyCallsTest other = new AnyCallsTest(7, false);
        for (int k = 0; k < 512; k++) {
            CHECK.due("the same calls", one.call(), other.call());
        }
        CHECK.sameView("the same calls", one.x, View.of(other.x));
    }

    /** A number that may well be: up to most, or now and then any edge. */
    private int number(int most) {
        boolean edge = edges ? random.nextInt(3) == 0 : random.nextInt(60) == 0;
        return edge ? EDGES[random.nextInt(EDGES.length)] : random.nextInt(most + 1);
    }

    private long wide() {
        return random.nextBoolean() ? random.nextInt(9) : LONG_EDGES[random.nextInt(LONG_EDGES.length)];
    }

    private long call() {
        int kind = random.nextInt(40);
        if (kind < 12) {
            return x.tick(random.nextInt(50) == 0 ? number(900) : 1 + random.nextInt(3));
        }
        if (kind < 18) {
            return x.publish(number(2), number(8) - 1, number(6));
        }
        if (kind < 22) {
            return x.change(number(4), wide());
        }
        return kind < 31 ? service(kind - 22) : other(kind - 31);
    }

    private long service(int kind) {
        switch (kind) {
            case 0: return x.item(number(2), number(6), number(4), 1 + number(3), 1 + number(7), random.nextBoolean(),
                random.nextInt(4) == 0 ? number(2) : 2, random.nextInt(5) == 0 ? wide() : 0);
            case 1: return x.mode(number(2), number(20), number(2));
            case 2: return random.nextInt(4) == 0 ? x.drop(number(2), number(20)) : x.read(number(2), number(4));
            case 3: return x.again(number(2), number(6), number(9));
            case 4: return x.transfer(number(2), number(6));
            case 5: return x.turn(number(2), number(6), random.nextInt(3) > 0);
            case 6: return random.nextInt(8) == 0 ? x.unsubscribe(number(2), number(6)) : x.write(number(2), number(4), wide());
            case 7: return x.modify(number(2), number(6), 1 + number(3), 1 + number(4), 3 + number(90), number(4));
            default: return x.subscribe(number(2), 1 + number(3), 1 + number(4), 3 + number(90), number(4));
        }
    }

    private long other(int kind) {
        switch (kind) {
            case 0: return x.node(number(2));
            case 1: return x.refer(number(4), number(4), number(7));
            case 2: return x.session(random.nextInt(4) == 0 ? number(1000) : 1000);
            case 3: return x.activate(number(2));
            case 4: return random.nextInt(10) == 0 ? x.close(number(11)) : x.activate(number(2));
            case 5: return x.browse(number(2), number(4), number(2), number(255), number(3));
            case 6: return x.mail(number(2), number(20)) + x.message(number(40), number(5)) + x.entry(number(40), number(4), number(3));
            case 7: return x.sessionOf(number(3), number(4)) + x.subscription(number(8), number(8)) + x.itemOf(number(30), number(4));
            default: return x.status(number(19)) + x.value() + x.acknowledged();
        }
    }

    private void fits() {
        within("TIME", x.status(0), 100000);
        within("NODES", x.status(1), 40);
        within("REFERENCES", x.status(2), 100);
        within("MESSAGES", x.status(6), 900);
        int open = 0;
        int subscriptions = 0;
        for (int s = 0; s < 12; s++) {
            boolean isOpen = x.sessionOf(s, 0) == 0 || x.sessionOf(s, 0) == 1;
            open += isOpen ? 1 : 0;
            subscriptions += Math.max(0, x.sessionOf(s, 3));
            CHECK.due("not ACTIVE, no SUBSCRIPTIONS", x.sessionOf(s, 0) == 1 ? 0 : Math.max(0, x.sessionOf(s, 3)), 0);
            within("REQUESTS", Math.max(0, x.sessionOf(s, 2)), 4);
            CHECK.due("an open one's END is to come", isOpen && x.sessionOf(s, 1) <= 0 ? 1 : 0, 0);
        }
        CHECK.due("SESSIONS", x.status(3), open);
        CHECK.due("SUBSCRIPTIONS", x.status(4), subscriptions);
        fitItems();
        fitMessages();
    }

    private void fitItems() {
        int[] of = new int[20];
        int items = 0;
        for (int i = 0; i < 60; i++) {
            int sub = x.itemOf(i, 0);
            if (sub >= 0) {
                items++;
                of[sub]++;
                within("QUEUE", x.itemOf(i, 3), x.itemOf(i, 2) == 0 ? 0 : 8);
            }
        }
        CHECK.due("ITEMS", x.status(5), items);
        for (int sub = 0; sub < 20; sub++) {
            CHECK.due("ITEMS of " + sub, Math.max(0, x.subscription(sub, 6)), of[sub]);
        }
    }

    private void fitMessages() {
        int[] kept = new int[20];
        for (int m = 0; m < x.status(6); m++) {
            kept[x.message(m, 0)] += x.message(m, 5);
            within("entries", x.message(m, 2), 40);
            CHECK.due("without entries none is KEPT, nor MORE",
                x.message(m, 2) == 0 ? x.message(m, 5) + x.message(m, 3) : 0, 0);
        }
        for (int sub = 0; sub < 20; sub++) {
            CHECK.due("KEPT of " + sub, Math.max(0, x.subscription(sub, 7)), kept[sub]);
            within("KEPT", kept[sub], 5);
        }
    }

    private static void within(String what, int got, int most) {
        CHECK.due(what + " " + got + " is within 0 .. " + most, got >= 0 && got <= most ? 1 : 0, 1);
    }
}

import java.util.ArrayList;

/**
 * A server of nodes with values, as its clients see it: sessions that time out, browsing, reading,
 * writing, items that watch values by sampling, and subscriptions that publish what was sampled.
 * The words of DOC.md are used here as it uses them.
 */
public final class WatchServer {
    private static final int NOBODY = -1;
    private static final int CLOSED = -2;
    private static final int NEW = -3;
    private static final int NODE = -4;
    private static final int OTHER = -5;
    private static final int ITEM = -6;
    private static final int NUMBER = -7;
    private static final int ROOM = -8;
    private static final int NOTHING = -9;
    private static final int REFUSALS = 9;
    private static final int REFUSALS_SHOWN_FROM = 10;

    private static final int MOST_NODES = 40;
    private static final int MOST_REFERENCES = 100;
    private static final int MOST_SESSIONS = 12;
    private static final int MOST_SUBSCRIPTIONS = 20;
    private static final int MOST_ITEMS = 60;
    private static final int MOST_MESSAGES = 900;
    private static final int MOST_REQUESTS = 4;
    private static final int MOST_MAIL_FOR_AGAIN = 200;
    private static final int MOST_TICKS = 1000;
    private static final int LATEST_TIME = 100000;
    private static final int LONGEST_TIMEOUT = 1000;
    private static final int NO_ACKNOWLEDGEMENT = -1;

    private final ArrayList<Node> nodes = new ArrayList<>();
    private final ArrayList<Reference> references = new ArrayList<>();
    private final ArrayList<Session> sessions = new ArrayList<>();
    private final ArrayList<Subscription> subscriptions = new ArrayList<>();
    private final ArrayList<Item> items = new ArrayList<>();
    private final ArrayList<Message> messages = new ArrayList<>();
    private final int[] refusals = new int[REFUSALS + 1];
    private int time = 0;
    private long valueRead = 0;
    private int acknowledgement = 0;
    private int latenesses = 0;

    public WatchServer() {
    }

    public int node(int kind) {
        if (!isWithin(kind, Node.OBJECT, Node.WRITABLE)) {
            return refuse(NUMBER);
        }
        if (nodes.size() >= MOST_NODES) {
            return refuse(ROOM);
        }
        nodes.add(new Node(nodes.size(), kind));
        return nodes.size() - 1;
    }

    public int refer(int from, int to, int type) {
        if (nodeAt(from) == null || nodeAt(to) == null) {
            return refuse(NODE);
        }
        if (!isWithin(type, 0, Reference.LAST_TYPE)) {
            return refuse(NUMBER);
        }
        if (references.size() >= MOST_REFERENCES) {
            return refuse(ROOM);
        }
        references.add(new Reference(from, to, type));
        return references.size() - 1;
    }

    public int change(int node, long v) {
        Node variable = variableAt(node);
        if (variable == null) {
            return refuse(NODE);
        }
        variable.value = v;
        return 1;
    }

    public int tick(int n) {
        if (!isWithin(n, 1, MOST_TICKS)) {
            return refuse(NUMBER);
        }
        if (time + n > LATEST_TIME) {
            return refuse(ROOM);
        }
        int before = messages.size();
        for (int k = 0; k < n; k++) {
            time++;
            sampleItems();
            serveSubscriptions();
            closeTimedOut();
        }
        return messages.size() - before;
    }

    public int session(int timeout) {
        if (!isWithin(timeout, 1, LONGEST_TIMEOUT)) {
            return refuse(NUMBER);
        }
        if (sessions.size() >= MOST_SESSIONS) {
            return refuse(ROOM);
        }
        sessions.add(new Session(sessions.size(), timeout, time));
        return sessions.size() - 1;
    }

    public int activate(int s) {
        Session client = sessionAt(s);
        if (client == null || client.state == Session.IS_CLOSED) {
            return refuseSession(s);
        }
        client.state = Session.IS_ACTIVE;
        client.renew(time);
        return 1;
    }

    public int close(int s) {
        Session client = enter(s);
        if (client == null) {
            return refuseSession(s);
        }
        return shut(client);
    }

    public int browse(int s, int node, int way, int types, int i) {
        if (enter(s) == null) {
            return refuseSession(s);
        }
        if (nodeAt(node) == null) {
            return refuse(NODE);
        }
        if (!isWithin(way, Reference.BEGINS, Reference.EITHER)) {
            return refuse(NUMBER);
        }
        int found = 0;
        for (int k = 0; k < references.size(); k++) {
            Reference reference = references.get(k);
            if (reference.touches(node, way) && reference.isAmong(types)) {
                if (found == i) {
                    return reference.otherEnd(node);
                }
                found++;
            }
        }
        return refuse(NOTHING);
    }

    public int read(int s, int node) {
        if (enter(s) == null) {
            return refuseSession(s);
        }
        Node variable = variableAt(node);
        if (variable == null) {
            return refuse(NODE);
        }
        valueRead = variable.value;
        return 0;
    }

    public long value() {
        return valueRead;
    }

    public int write(int s, int node, long v) {
        if (enter(s) == null) {
            return refuseSession(s);
        }
        Node variable = variableAt(node);
        if (variable == null || variable.kind != Node.WRITABLE) {
            return refuse(NODE);
        }
        variable.value = v;
        return 1;
    }

    public int subscribe(int s, int period, int keep, int life, int most) {
        Session client = enter(s);
        if (client == null) {
            return refuseSession(s);
        }
        if (!Subscription.mayHave(period, keep, life, most)) {
            return refuse(NUMBER);
        }
        if (subscriptions.size() >= MOST_SUBSCRIPTIONS) {
            return refuse(ROOM);
        }
        Subscription made = new Subscription(subscriptions.size(), client);
        made.begin(time, period, keep, life, most);
        subscriptions.add(made);
        return made.number;
    }

    public int modify(int s, int sub, int period, int keep, int life, int most) {
        Session client = enter(s);
        if (client == null) {
            return refuseSession(s);
        }
        Subscription own = subscriptionOf(client, sub);
        if (own == null) {
            return refuse(OTHER);
        }
        if (!Subscription.mayHave(period, keep, life, most)) {
            return refuse(NUMBER);
        }
        own.begin(time, period, keep, life, most);
        return 1;
    }

    public int turn(int s, int sub, boolean on) {
        Session client = enter(s);
        if (client == null) {
            return refuseSession(s);
        }
        Subscription own = subscriptionOf(client, sub);
        if (own == null) {
            return refuse(OTHER);
        }
        boolean isNew = own.on != on;
        own.on = on;
        own.lifeLeft = own.life;
        return asNumber(isNew);
    }

    public int transfer(int s, int sub) {
        Session client = enter(s);
        if (client == null) {
            return refuseSession(s);
        }
        Subscription moved = subscriptionAt(sub);
        if (moved == null) {
            return refuse(OTHER);
        }
        boolean isNew = moved.owner != client;
        moved.owner = client;
        moved.lifeLeft = moved.life;
        return asNumber(isNew);
    }

    public int unsubscribe(int s, int sub) {
        Session client = enter(s);
        if (client == null) {
            return refuseSession(s);
        }
        Subscription own = subscriptionOf(client, sub);
        if (own == null) {
            return refuse(OTHER);
        }
        own.end();
        return 1;
    }

    public int item(int s, int sub, int node, int interval, int size, boolean oldest, int mode, long band) {
        Session client = enter(s);
        if (client == null) {
            return refuseSession(s);
        }
        Subscription own = subscriptionOf(client, sub);
        if (own == null) {
            return refuse(OTHER);
        }
        Node variable = variableAt(node);
        if (variable == null) {
            return refuse(NODE);
        }
        if (!Item.mayHave(interval, size, mode, band)) {
            return refuse(NUMBER);
        }
        if (items.size() >= MOST_ITEMS) {
            return refuse(ROOM);
        }
        Item made = new Item(items.size(), own, variable, time, interval, band, new Queue(size, oldest));
        items.add(made);
        own.items.add(made);
        own.lifeLeft = own.life;
        made.switchTo(mode, time);
        return made.number;
    }

    public int mode(int s, int item, int mode) {
        Session client = enter(s);
        if (client == null) {
            return refuseSession(s);
        }
        Item own = itemOfClient(client, item);
        if (own == null) {
            return refuse(ITEM);
        }
        if (!isWithin(mode, Item.OFF, Item.REPORTING)) {
            return refuse(NUMBER);
        }
        int before = own.mode;
        own.switchTo(mode, time);
        own.owner.lifeLeft = own.owner.life;
        return before;
    }

    public int drop(int s, int item) {
        Session client = enter(s);
        if (client == null) {
            return refuseSession(s);
        }
        Item own = itemOfClient(client, item);
        if (own == null) {
            return refuse(ITEM);
        }
        int entries = own.queue.entries.size();
        own.owner.remove(own);
        own.owner.lifeLeft = own.owner.life;
        return entries;
    }

    public int publish(int s, int sub, int n) {
        Session client = enter(s);
        if (client == null) {
            return refuseSession(s);
        }
        if (countSubscriptions(client) == 0) {
            return refuse(NOTHING);
        }
        if (client.requests >= MOST_REQUESTS || messages.size() >= MOST_MESSAGES) {
            return refuse(ROOM);
        }
        acknowledgement = sub == NO_ACKNOWLEDGEMENT ? 0 : acknowledge(client, sub, n);
        client.requests++;
        Subscription due = longestLate(client);
        if (due == null) {
            due = firstWithMore(client);
        }
        if (due == null) {
            return 0;
        }
        send(due);
        return 1;
    }

    public int acknowledged() {
        return acknowledgement;
    }

    public int again(int s, int sub, int n) {
        Session client = enter(s);
        if (client == null) {
            return refuseSession(s);
        }
        Subscription own = subscriptionOf(client, sub);
        if (own == null) {
            return refuse(OTHER);
        }
        Message kept = own.keptOf(n);
        if (kept == null) {
            return refuse(NOTHING);
        }
        if (client.mail.size() >= MOST_MAIL_FOR_AGAIN) {
            return refuse(ROOM);
        }
        client.mail.add(kept);
        own.lifeLeft = own.life;
        return kept.place;
    }

    public int mail(int s, int i) {
        Session client = sessionAt(s);
        if (client == null) {
            return NOBODY;
        }
        return i >= 0 && i < client.mail.size() ? client.mail.get(i).place : NOTHING;
    }

    public int message(int m, int what) {
        Message asked = messageAt(m);
        if (asked == null) {
            return NOTHING;
        }
        switch (what) {
            case 0: return asked.subscription;
            case 1: return asked.number;
            case 2: return asked.entries.length;
            case 3: return asNumber(asked.more);
            case 4: return asked.time;
            case 5: return asNumber(asked.kept);
            default: return NOTHING;
        }
    }

    public long entry(int m, int i, int what) {
        Message asked = messageAt(m);
        if (asked == null || i < 0 || i >= asked.entries.length) {
            return NOTHING;
        }
        Entry found = asked.entries[i];
        if (found == null) {
            return NOTHING;
        }
        switch (what) {
            case 0: return found.value;
            case 1: return found.item;
            case 2: return found.time;
            case 3: return asNumber(found.bit);
            default: return NOTHING;
        }
    }

    public int sessionOf(int s, int what) {
        Session asked = sessionAt(s);
        if (asked == null) {
            return NOTHING;
        }
        switch (what) {
            case 0: return asked.state;
            case 1: return asked.end - time;
            case 2: return asked.requests;
            case 3: return countSubscriptions(asked);
            case 4: return asked.mail.size();
            default: return NOTHING;
        }
    }

    public int subscription(int sub, int what) {
        Subscription asked = subscriptionAt(sub);
        if (asked == null) {
            return NOTHING;
        }
        switch (what) {
            case 0: return asked.owner.number;
            case 1: return asNumber(asked.on);
            case 2: return asked.next;
            case 3: return asked.keepLeft;
            case 4: return asked.lifeLeft;
            case 5: return asNumber(asked.late);
            case 6: return asked.items.size();
            case 7: return asked.kept.size();
            case 8: return asNumber(asked.isReady());
            default: return NOTHING;
        }
    }

    public int itemOf(int i, int what) {
        Item asked = itemAt(i);
        if (asked == null) {
            return NOTHING;
        }
        switch (what) {
            case 0: return asked.owner.number;
            case 1: return asked.variable.number;
            case 2: return asked.mode;
            case 3: return asked.queue.entries.size();
            case 4: return asNumber(asked.queue.firstHasBit());
            default: return NOTHING;
        }
    }

    public int status(int what) {
        int refusal = what - REFUSALS_SHOWN_FROM;
        if (isWithin(refusal, 1, REFUSALS)) {
            return refusals[refusal];
        }
        switch (what) {
            case 0: return time;
            case 1: return nodes.size();
            case 2: return references.size();
            case 3: return countOpenSessions();
            case 4: return countSubscriptions(null);
            case 5: return countItems();
            case 6: return messages.size();
            default: return NOTHING;
        }
    }

    private static boolean isWithin(int number, int least, int most) {
        return number >= least && number <= most;
    }

    private static boolean isMultiple(int number, int step) {
        return step > 0 && number % step == 0;
    }

    private static int asNumber(boolean so) {
        return so ? 1 : 0;
    }

    private int refuse(int refusal) {
        int place = -refusal;
        if (isWithin(place, 1, REFUSALS)) {
            refusals[place]++;
        }
        return refusal;
    }

    /** Only for a SESSION that enter() or activate() turned away. */
    private int refuseSession(int s) {
        Session client = sessionAt(s);
        if (client == null) {
            return refuse(NOBODY);
        }
        return refuse(client.state == Session.IS_CLOSED ? CLOSED : NEW);
    }

    /** The SESSION of a SERVICE, its END anew; null if it is none that is ACTIVE. */
    private Session enter(int s) {
        Session client = sessionAt(s);
        if (client == null || client.state != Session.IS_ACTIVE) {
            return null;
        }
        // What refuses the SERVICE from here on is -4 to -9, which leaves END anew all the same.
        client.renew(time);
        return client;
    }

    private Node nodeAt(int node) {
        return node >= 0 && node < nodes.size() ? nodes.get(node) : null;
    }

    private Node variableAt(int node) {
        Node found = nodeAt(node);
        return found == null || found.kind == Node.OBJECT ? null : found;
    }

    private Session sessionAt(int s) {
        return s >= 0 && s < sessions.size() ? sessions.get(s) : null;
    }

    private Message messageAt(int m) {
        return m >= 0 && m < messages.size() ? messages.get(m) : null;
    }

    private Subscription subscriptionAt(int sub) {
        if (sub < 0 || sub >= subscriptions.size()) {
            return null;
        }
        Subscription found = subscriptions.get(sub);
        return found.gone ? null : found;
    }

    private Subscription subscriptionOf(Session client, int sub) {
        Subscription found = subscriptionAt(sub);
        return found == null || found.owner != client ? null : found;
    }

    private Item itemAt(int i) {
        if (i < 0 || i >= items.size()) {
            return null;
        }
        Item found = items.get(i);
        return found.gone ? null : found;
    }

    private Item itemOfClient(Session client, int i) {
        Item found = itemAt(i);
        return found == null || found.owner.owner != client ? null : found;
    }

    private int countOpenSessions() {
        int count = 0;
        for (int k = 0; k < sessions.size(); k++) {
            if (sessions.get(k).state != Session.IS_CLOSED) {
                count++;
            }
        }
        return count;
    }

    /** The SUBSCRIPTIONS that there are, of one SESSION, or of all of them if it is null. */
    private int countSubscriptions(Session client) {
        int count = 0;
        for (int k = 0; k < subscriptions.size(); k++) {
            Subscription each = subscriptions.get(k);
            if (!each.gone && (client == null || each.owner == client)) {
                count++;
            }
        }
        return count;
    }

    private int countItems() {
        int count = 0;
        for (int k = 0; k < items.size(); k++) {
            if (!items.get(k).gone) {
                count++;
            }
        }
        return count;
    }

    private void sampleItems() {
        for (int k = 0; k < items.size(); k++) {
            Item each = items.get(k);
            if (!each.gone && each.mode != Item.OFF && isMultiple(time - each.born, each.interval)) {
                each.sample(time);
            }
        }
    }

    private void serveSubscriptions() {
        for (int k = 0; k < subscriptions.size(); k++) {
            Subscription each = subscriptions.get(k);
            if (!each.gone && isMultiple(time - each.born, each.period) && each.wantsToSend()) {
                answerRequests(each);
            }
        }
    }

    private void answerRequests(Subscription due) {
        int requests = due.owner.requests;
        if (requests == 0) {
            fallShort(due);
            return;
        }
        for (int k = 0; k < requests; k++) {
            if (messages.size() >= MOST_MESSAGES) {
                fallShort(due);
                return;
            }
            send(due);
            if (!due.more) {
                return;
            }
        }
    }

    private void fallShort(Subscription due) {
        if (!due.late) {
            due.late = true;
            due.lateOrder = latenesses;
            latenesses++;
        }
        due.lifeLeft--;
        if (due.lifeLeft <= 0) {
            due.end();
        }
    }

    private void send(Subscription due) {
        boolean hasValues = due.isReady();
        Message made = new Message(messages.size(), due.number, due.next, time, due.takeEntries());
        if (hasValues) {
            due.next++;
            due.keepMessage(made);
        }
        made.more = due.isReady();
        due.more = made.more;
        due.sent = true;
        due.late = false;
        due.keepLeft = due.keep;
        due.lifeLeft = due.life;
        due.owner.requests--;
        due.owner.mail.add(made);
        messages.add(made);
    }

    private void closeTimedOut() {
        for (int k = 0; k < sessions.size(); k++) {
            Session each = sessions.get(k);
            if (each.state != Session.IS_CLOSED && each.end == time) {
                shut(each);
            }
        }
    }

    private int shut(Session client) {
        client.state = Session.IS_CLOSED;
        client.requests = 0;
        int ended = 0;
        for (int k = 0; k < subscriptions.size(); k++) {
            Subscription each = subscriptions.get(k);
            if (!each.gone && each.owner == client) {
                each.end();
                ended++;
            }
        }
        return ended;
    }

    private int acknowledge(Session client, int sub, int n) {
        Subscription own = subscriptionOf(client, sub);
        if (own == null) {
            return OTHER;
        }
        return own.forget(n) ? 1 : NOTHING;
    }

    private Subscription longestLate(Session client) {
        Subscription longest = null;
        for (int k = 0; k < subscriptions.size(); k++) {
            Subscription each = subscriptions.get(k);
            if (!each.gone && each.owner == client && each.late
                    && (longest == null || each.lateOrder < longest.lateOrder)) {
                longest = each;
            }
        }
        return longest;
    }

    private Subscription firstWithMore(Session client) {
        for (int k = 0; k < subscriptions.size(); k++) {
            Subscription each = subscriptions.get(k);
            if (!each.gone && each.owner == client && each.more && each.isReady()) {
                return each;
            }
        }
        return null;
    }

    private static final class Node {
        static final int OBJECT = 0;
        static final int WRITABLE = 2;

        final int number;
        final int kind;
        long value = 0;

        Node(int number, int kind) {
            this.number = number;
            this.kind = kind;
        }
    }

    private static final class Reference {
        static final int LAST_TYPE = 7;
        static final int BEGINS = 0;
        static final int ENDS = 1;
        static final int EITHER = 2;

        final int from;
        final int to;
        final int type;

        Reference(int from, int to, int type) {
            this.from = from;
            this.to = to;
            this.type = type;
        }

        boolean touches(int node, int way) {
            return (way != ENDS && from == node) || (way != BEGINS && to == node);
        }

        boolean isAmong(int types) {
            return ((types >>> type) & 1) == 1;
        }

        int otherEnd(int node) {
            return from == node ? to : from;
        }
    }

    private static final class Session {
        static final int IS_NEW = 0;
        static final int IS_ACTIVE = 1;
        static final int IS_CLOSED = 2;

        final int number;
        final int timeout;
        final ArrayList<Message> mail = new ArrayList<>();
        int state = IS_NEW;
        int end;
        int requests = 0;

        Session(int number, int timeout, int now) {
            this.number = number;
            this.timeout = timeout;
            this.end = now + timeout;
        }

        void renew(int now) {
            end = now + timeout;
        }
    }

    private static final class Subscription {
        static final int LONGEST_PERIOD = 100;
        static final int MOST_KEEP = 20;
        static final int LEAST_LIFE = 3;
        static final int MOST_LIFE = 100;
        static final int LARGEST_MOST = 10;
        static final int MOST_ENTRIES = 40;
        static final int MOST_KEPT = 5;

        final int number;
        final ArrayList<Item> items = new ArrayList<>();
        final ArrayList<Message> kept = new ArrayList<>();
        Session owner;
        int born;
        int period;
        int keep;
        int life;
        int most;
        boolean on = true;
        int next = 1;
        int keepLeft;
        int lifeLeft;
        boolean sent = false;
        boolean more = false;
        boolean late = false;
        int lateOrder = 0;
        boolean gone = false;

        Subscription(int number, Session owner) {
            this.number = number;
            this.owner = owner;
        }

        static boolean mayHave(int period, int keep, int life, int most) {
            return isWithin(period, 1, LONGEST_PERIOD) && isWithin(keep, 1, MOST_KEEP)
                    && isWithin(life, LEAST_LIFE, MOST_LIFE) && isWithin(most, 0, LARGEST_MOST);
        }

        void begin(int now, int period, int keep, int life, int most) {
            this.born = now;
            this.period = period;
            this.keep = keep;
            this.life = life;
            this.most = most;
            this.keepLeft = keep;
            this.lifeLeft = life;
        }

        boolean isReady() {
            return on && countEntries() > 0;
        }

        /** At the end of a PERIOD; it counts KEEP LEFT down. */
        boolean wantsToSend() {
            if (isReady()) {
                return true;
            }
            if (sent) {
                keepLeft--;
            }
            return !sent || keepLeft <= 0;
        }

        int countEntries() {
            int count = 0;
            for (int k = 0; k < items.size(); k++) {
                Item each = items.get(k);
                if (each.mode == Item.REPORTING) {
                    count += each.queue.entries.size();
                }
            }
            return count;
        }

        /** The entries of its next MESSAGE, which leave their QUEUES; none if it is not ON. */
        Entry[] takeEntries() {
            int limit = most == 0 ? MOST_ENTRIES : most;
            int count = on ? Math.min(limit, countEntries()) : 0;
            Entry[] taken = new Entry[count];
            int filled = 0;
            for (int k = 0; k < items.size() && filled < count; k++) {
                Item each = items.get(k);
                int waiting = each.mode == Item.REPORTING ? each.queue.entries.size() : 0;
                int share = Math.min(waiting, count - filled);
                for (int j = 0; j < share; j++) {
                    taken[filled] = each.queue.entries.remove(0);
                    filled++;
                }
            }
            return taken;
        }

        void keepMessage(Message made) {
            if (kept.size() >= MOST_KEPT) {
                kept.get(0).kept = false;
                kept.remove(0);
            }
            kept.add(made);
            made.kept = true;
        }

        Message keptOf(int n) {
            for (int k = 0; k < kept.size(); k++) {
                if (kept.get(k).number == n) {
                    return kept.get(k);
                }
            }
            return null;
        }

        /** Whether the MESSAGE of number n was KEPT; it is no more. */
        boolean forget(int n) {
            for (int k = 0; k < kept.size(); k++) {
                if (kept.get(k).number == n) {
                    kept.get(k).kept = false;
                    kept.remove(k);
                    return true;
                }
            }
            return false;
        }

        void remove(Item dropped) {
            dropped.gone = true;
            for (int k = 0; k < items.size(); k++) {
                if (items.get(k) == dropped) {
                    items.remove(k);
                    return;
                }
            }
        }

        void end() {
            gone = true;
            for (int k = 0; k < items.size(); k++) {
                items.get(k).gone = true;
            }
            items.clear();
            for (int k = 0; k < kept.size(); k++) {
                kept.get(k).kept = false;
            }
            kept.clear();
        }
    }

    private static final class Item {
        static final int OFF = 0;
        static final int REPORTING = 2;
        static final int LONGEST_INTERVAL = 100;

        final int number;
        final Subscription owner;
        final Node variable;
        final int born;
        final int interval;
        final long band;
        final Queue queue;
        int mode = OFF;
        boolean hasTaken = false;
        long taken = 0;
        boolean gone = false;

        Item(int number, Subscription owner, Node variable, int born, int interval, long band, Queue queue) {
            this.number = number;
            this.owner = owner;
            this.variable = variable;
            this.born = born;
            this.interval = interval;
            this.band = band;
            this.queue = queue;
        }

        static boolean mayHave(int interval, int size, int mode, long band) {
            return isWithin(interval, 1, LONGEST_INTERVAL) && isWithin(size, 1, Queue.LARGEST_SIZE)
                    && isWithin(mode, OFF, REPORTING) && band >= 0;
        }

        void switchTo(int next, int now) {
            boolean wasOff = mode == OFF;
            mode = next;
            if (next == OFF) {
                hasTaken = false;
                queue.entries.clear();
            } else if (wasOff) {
                sample(now);
            }
        }

        void sample(int now) {
            long value = variable.value;
            if (!hasTaken || isBeyondBand(value)) {
                hasTaken = true;
                taken = value;
                queue.put(new Entry(value, number, now));
            }
        }

        boolean isBeyondBand(long value) {
            long difference = Math.max(value, taken) - Math.min(value, taken);
            // The larger less the smaller is below 0 only if it went round, and then it is above every BAND.
            return difference < 0 || difference > band;
        }
    }

    private static final class Queue {
        static final int LARGEST_SIZE = 8;

        final int size;
        final boolean oldest;
        final ArrayList<Entry> entries = new ArrayList<>();

        Queue(int size, boolean oldest) {
            this.size = size;
            this.oldest = oldest;
        }

        void put(Entry entry) {
            if (entries.size() < size) {
                entries.add(entry);
            } else if (size == 1) {
                // The one entry makes place for the new one, and neither rule marks it.
                entries.set(0, entry);
            } else if (oldest) {
                entries.remove(0);
                entries.get(0).bit = true;
                entries.add(entry);
            } else {
                entry.bit = true;
                entries.set(entries.size() - 1, entry);
            }
        }

        boolean firstHasBit() {
            return !entries.isEmpty() && entries.get(0).bit;
        }
    }

    private static final class Entry {
        final long value;
        final int item;
        final int time;
        boolean bit = false;

        Entry(long value, int item, int time) {
            this.value = value;
            this.item = item;
            this.time = time;
        }
    }

    private static final class Message {
        final int place;
        final int subscription;
        final int number;
        final int time;
        final Entry[] entries;
        boolean more = false;
        boolean kept = false;

        Message(int place, int subscription, int number, int time, Entry[] entries) {
            this.place = place;
            this.subscription = subscription;
            this.number = number;
            this.time = time;
            this.entries = entries;
        }
    }
}

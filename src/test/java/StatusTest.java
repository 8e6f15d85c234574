/** Promise 30: status; and how REFUSALS are counted. */
public final class StatusTest {
    private static final Check CHECK = new Check();

    public static void main(String[] args) {
        counts();
        refusals();
        CHECK.done();
    }

    private static void counts() {
        WatchServer x = Scene.clients();
        x.refer(0, 1, 0);
        x.refer(0, 2, 0);
        x.subscribe(0, 1, 20, 100, 0);
        x.subscribe(1, 1, 20, 100, 0);
        x.item(0, 0, 1, 1, 1, true, 2, 0);
        x.item(1, 1, 1, 1, 1, true, 2, 0);
        x.item(1, 1, 1, 1, 1, true, 2, 0);
        x.publish(0, -1, 0);
        x.tick(7);
        int[] due = {7, 3, 2, 3, 2, 3, 1};
        for (int k = 0; k <= 6; k++) {
            int what = k;
            CHECK.tells(x, "status " + what, due[what], () -> x.status(what));
        }
        for (int what : new int[] {-1, 7, 8, 9, 10, 20, Integer.MIN_VALUE, Integer.MAX_VALUE}) {
            CHECK.tells(x, "status " + what, -9, () -> x.status(what));
        }
    }

    private static void refusals() {
        WatchServer x = Scene.clients();
        x.subscribe(0, 1, 20, 100, 0);
        int[] times = {0, 3, 1, 2, 4, 1, 2, 3, 2, 1};
        for (int k = 0; k < 4; k++) {
            x.publish(0, -1, 0);
            x.read(0, 0);
        }
        for (int k = 0; k < 3; k++) {
            x.activate(4);
            x.tick(0);
        }
        for (int k = 0; k < 2; k++) {
            x.close(3);
            x.drop(0, 0);
            x.publish(0, -1, 0);
        }
        x.read(2, 1);
        x.turn(1, 0, true);
        x.again(0, 0, 1);
        for (int k = 1; k <= 9; k++) {
            CHECK.due("REFUSALS -" + k, x.status(10 + k), times[k]);
        }
    }
}

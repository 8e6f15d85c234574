import java.util.function.IntToLongFunction;
import java.util.function.LongSupplier;

/** Counts the answers of one test that are not as due, and ends it with 1 if there were any. */
final class Check {
    private static final int[] NOBODY = {4, -1, Integer.MIN_VALUE, Integer.MAX_VALUE};
    private static final int CLOSED_SESSION = 2;
    private static final int NEW_SESSION = 3;

    private int answers = 0;
    private int wrong = 0;
    private String sentence = "";

    void due(String what, long got, long want) {
        answers++;
        if (got != want) {
            tellWrong(what + ": answered " + got + ", due is " + want);
        }
    }

    /** One test of its own for a sentence that stands under that heading of the document, told with it if it fails. */
    void sentence(String heading, String words, Runnable test) {
        int before = answers;
        sentence = "[" + heading + " | " + words + "] ";
        test.run();
        if (answers == before) {
            tellWrong("asks nothing");
        }
        sentence = "";
    }

    private void tellWrong(String what) {
        wrong++;
        System.out.println(sentence + what);
    }

    /**
     * The call answers the REFUSAL, and changes nothing but how many of that REFUSAL there were. The SESSION's END is
     * anew by -4 to -9 too, so the test lets no TIME go by between its latest SERVICE and this one.
     */
    void refused(WatchServer x, String what, int refusal, LongSupplier call) {
        int[] want = refusals(x);
        want[-refusal]++;
        String before = View.of(x);
        due(what, call.getAsLong(), refusal);
        sameView(what, x, before);
        for (int k = 1; k < want.length; k++) {
            due(what + ", then status(" + (10 + k) + ")", x.status(10 + k), want[k]);
        }
    }

    /** A SERVICE in Scene.clients(): whatever else it is asked, -1 nobody, -2 CLOSED, -3 NEW. */
    void refusesSessions(WatchServer x, String what, IntToLongFunction service) {
        for (int s : NOBODY) {
            refused(x, what + " of SESSION " + s, -1, () -> service.applyAsLong(s));
        }
        refused(x, what + " of a CLOSED SESSION", -2, () -> service.applyAsLong(CLOSED_SESSION));
        refused(x, what + " of a NEW SESSION", -3, () -> service.applyAsLong(NEW_SESSION));
    }

    /** The call answers, and changes nothing, not even how many REFUSALS there were. */
    void tells(WatchServer x, String what, long want, LongSupplier call) {
        int[] counts = refusals(x);
        String before = View.of(x);
        due(what, call.getAsLong(), want);
        sameView(what, x, before);
        for (int k = 1; k < counts.length; k++) {
            due(what + ", then status(" + (10 + k) + ")", x.status(10 + k), counts[k]);
        }
    }

    void sameView(String what, WatchServer x, String before) {
        String after = View.of(x);
        answers++;
        if (!after.equals(before)) {
            tellWrong(what + ": changed what may not change\n  before " + before + "\n  after  " + after);
        }
    }

    void done() {
        System.out.println(wrong == 0 ? answers + " answers as due" : wrong + " of " + answers + " answers not as due");
        if (wrong != 0) {
            System.exit(1);
        }
    }

    private static int[] refusals(WatchServer x) {
        int[] counts = new int[10];
        for (int k = 1; k < counts.length; k++) {
            counts[k] = x.status(10 + k);
        }
        return counts;
    }
}

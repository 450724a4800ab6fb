import java.nio.charset.StandardCharsets;

/** What all tests share: due answers are counted, and texts are told by the tape. */
final class Check {
    static final int DELTA = 0;
    static final int VOTES = 1;
    static final int MOVES = 2;

    static final int NONE = VotedRiver.NONE;
    static final int LOWEST = Integer.MIN_VALUE;
    static final int HIGHEST = Integer.MAX_VALUE;

    private static int asked = 0;
    private static int wrong = 0;
    private static String held = "";

    private Check() {
    }

    static void due(String call, long got, long want) {
        asked++;
        if (got != want) {
            wrong++;
            System.out.println(held + call + " answered " + got + ", due is " + want);
        }
    }

    /** From here on tests hold this sentence of this promise or term. */
    static void holds(String where, String sentence) {
        held = where + " «" + sentence + "»: ";
    }

    static void due(String call, boolean got, boolean want) {
        due(call, got ? 1 : 0, want ? 1 : 0);
    }

    static void finish() {
        System.out.println(asked + " answers, " + wrong + " wrong");
        if (wrong > 0 || asked == 0) {
            System.exit(1);
        }
    }

    /** Feeds a text, ends the tape behind it, and answers text(k). */
    static int tell(VotedRiver river, int k, String text) {
        feed(river, text);
        return river.text(k);
    }

    static void feed(VotedRiver river, String text) {
        byte[] bytes = text.getBytes(StandardCharsets.ISO_8859_1);
        for (int from = 0; from < bytes.length; from += 20) {
            river.feed(four(bytes, from), four(bytes, from + 4), four(bytes, from + 8),
                    four(bytes, from + 12), four(bytes, from + 16));
        }
        river.end(bytes.length);
    }

    private static int four(byte[] bytes, int from) {
        int word = 0;
        for (int i = from; i < from + 4; i++) {
            word = word << 8 | (i < bytes.length ? bytes[i] & 255 : 0);
        }
        return word;
    }

    static VotedRiver river(String delta) {
        VotedRiver river = new VotedRiver();
        int nodes = tell(river, DELTA, delta);
        if (nodes < 1) {
            due("told «" + delta + "»", nodes, 1);
        }
        return river;
    }

    /** Telling this text must end with this fault at this place. */
    static void fault(int k, String text, int fault, int place) {
        VotedRiver river = new VotedRiver();
        due("text(" + k + ") of «" + text + "»", tell(river, k, text), VotedRiver.NONE);
        due("fault(0) of «" + text + "»", river.fault(0), fault);
        due("fault(1) of «" + text + "»", river.fault(1), place);
    }

    static void fine(int k, String text, int size) {
        VotedRiver river = new VotedRiver();
        due("text(" + k + ") of «" + text + "»", tell(river, k, text), size);
        due("fault(0) of «" + text + "»", river.fault(0), 0);
        due("fault(1) of «" + text + "»", river.fault(1), VotedRiver.NONE);
    }
}

/** Promises 2 to 11, 29, 30: a call changes what it tells, and leaves all the rest as it is. */
public final class RestTest {
    private static final int TAPE = 3;
    private static final int FAULT_PLACE = 5;

    public static void main(String[] args) {
        stateAlone();
        settingsAlone();
        townAlone();
        boughtAlone();
        digAlone();
        tapeAlone();
        lawsAlone();
        refusedTexts();
        daysLeave();
        undoneDays();
        imageTaken();
        imageGoneBackTo();
        Check.finish();
    }

    /** A river of which nearly nothing is as at first; its tape has three bytes, its fault is told. */
    private static VotedRiver busy() {
        VotedRiver x = Check.river("fork to 1 and 2 and 3;town 90 needs 30 to 5;town 60 needs 40 to 5;"
                + "fork to 4 and 5;town 25 needs 20 to 5;sea;");
        Check.tell(x, Check.VOTES, "vote heads;");
        Check.tell(x, Check.MOVES, "move heads / 5;");
        x.state(12345);
        int[] settings = {120, 20, 5, 5};
        for (int what = 0; what < settings.length; what++) {
            x.set(what, settings[what]);
        }
        x.buy(0, 1, 30);
        x.days(2);
        x.buy(0, 1, 99);
        x.days(1);
        x.town(1, 2, 2);
        x.town(1, 3, 70);
        x.buy(0, 1, 5);
        x.buy(3, 0, 6);
        Check.tell(x, Check.MOVES, "move ;");
        Check.feed(x, "sea");
        return x;
    }

    private static void tapeStays(VotedRiver x, String behind) {
        Check.due("fault(0) behind " + behind, x.fault(0), 1);
        Check.due("fault(1) behind " + behind, x.fault(1), FAULT_PLACE);
        Check.due("the tape behind " + behind, x.feed(0, 0, 0, 0, 0), TAPE + 20);
    }

    private static void stateAlone() {
        Check.holds("Promise 2", "STATE is told (alone)");
        VotedRiver x = busy();
        Sight before = Sight.of(x);
        x.state(1);
        before.changed("state(1)", "look(5)");
        tapeStays(x, "state(1)");
    }

    private static void settingsAlone() {
        Check.holds("Promise 3", "What 0 BASE, 1 TRICKLE, 2 DROUGHT, 3 SPATE (alone)");
        for (int what = 0; what < 4; what++) {
            VotedRiver x = busy();
            Sight before = Sight.of(x);
            Check.due("set(" + what + ", 33)", x.set(what, 33), true);
            before.changed("set(" + what + ", 33)", "look(" + (10 + what) + ")");
            tapeStays(x, "set(" + what + ", 33)");
        }
    }

    private static void townTells(int node, int what, int v, String... others) {
        VotedRiver x = busy();
        Sight before = Sight.of(x);
        String call = "town(" + node + ", " + what + ", " + v + ")";
        Check.due(call, x.town(node, what, v), true);
        before.changed(call, others);
        tapeStays(x, call);
    }

    private static void townAlone() {
        Check.holds("Promise 4", "Of a TOWN what 0 HEADS, 1 NEED, 2 DAMS, 3 STORE (alone)");
        townTells(1, 0, 7, "of(1, 0)", "fork(0, 10)", "look(9)");
        townTells(2, 0, 7, "of(2, 0)", "of(2, 8)", "fork(0, 11)", "look(9)");
        townTells(4, 0, 7, "of(4, 0)", "fork(0, 12)", "fork(3, 10)", "look(9)");
        townTells(1, 1, 999, "of(1, 1)");
        townTells(2, 1, 1, "of(2, 1)");
        townTells(1, 2, 9, "of(1, 2)");
        townTells(2, 2, 9, "of(2, 2)");
        townTells(1, 3, 0, "of(1, 3)");
        townTells(1, 3, 100, "of(1, 3)");
        Check.holds("Promise 4", "(Fewer DAMS: STORE is as much as it can be then.)");
        townTells(1, 2, 1, "of(1, 2)", "of(1, 3)");
        townTells(1, 2, 0, "of(1, 2)", "of(1, 3)");
    }

    private static void boughtAlone() {
        Check.holds("Promise 5", "VOTES are BOUGHT for an ARM (alone)");
        int[][] arms = {{0, 0}, {0, 1}, {0, 2}, {3, 0}, {3, 1}};
        for (int[] at : arms) {
            VotedRiver x = busy();
            Sight before = Sight.of(x);
            x.buy(at[0], at[1], 999);
            String call = "buy(" + at[0] + ", " + at[1] + ", 999)";
            before.changed(call, "fork(" + at[0] + ", " + (20 + at[1]) + ")");
            tapeStays(x, call);
        }
    }

    private static void digAlone() {
        Check.holds("Promise 6", "An ARM goes to another NODE from now on (all else stays)");
        VotedRiver x = busy();
        Sight before = Sight.of(x);
        Check.due("dig(0, 0, 5)", x.dig(0, 0, 5), true);
        before.changed("dig(0, 0, 5)", "node(0, 10)", "fork(0, 10)");
        tapeStays(x, "dig(0, 0, 5)");
        VotedRiver y = busy();
        Sight sight = Sight.of(y);
        Check.due("dig(0, 1, 5)", y.dig(0, 1, 5), true);
        sight.changed("dig(0, 1, 5)", "node(0, 11)", "fork(0, 11)");
        VotedRiver z = busy();
        Sight third = Sight.of(z);
        Check.due("dig(3, 1, 4)", z.dig(3, 1, 4), true);
        third.changed("dig(3, 1, 4)", "node(3, 11)", "fork(3, 11)");
    }

    private static void tapeAlone() {
        Check.holds("Promise 7", "Twenty bytes come behind the TAPE (alone)");
        VotedRiver x = busy();
        Sight before = Sight.of(x);
        Check.due("feed", x.feed(1, 2, 3, 4, 5), TAPE + 20);
        before.stays("feed");
        Check.holds("Promise 8", "The TAPE has its first n bytes alone (all else stays)");
        Check.due("end", x.end(TAPE), true);
        before.stays("end");
        tapeStays(x, "end");
    }

    private static void lawsAlone() {
        Check.holds("Promise 9", "The TAPE is TEXT k (the others, and all else, stay)");
        VotedRiver x = busy();
        Sight before = Sight.of(x);
        x.end(0);
        Check.due("text(1)", Check.tell(x, Check.VOTES, "vote 1; vote 2;"), 2);
        before.changed("text(1)", "look(6)", "fork(0, 10)", "fork(0, 11)", "fork(0, 12)", "fork(3, 10)");
        VotedRiver y = busy();
        Sight sight = Sight.of(y);
        y.end(0);
        Check.due("text(2)", Check.tell(y, Check.MOVES, ""), 0);
        sight.changed("text(2)", "look(7)", "of(2, 8)");
    }

    private static void refusedTexts() {
        Check.holds("Promise 9", "NONE: no such one, or a FAULT (the TEXT stays as it was)");
        VotedRiver x = busy();
        Sight before = Sight.of(x);
        x.end(0);
        Check.tell(x, Check.DELTA, "town 1 needs 1 to 1;sea");
        Check.tell(x, Check.VOTES, "vote 1; vote 2; vote");
        Check.tell(x, Check.MOVES, "move 1; move 2; move 3 when");
        Check.tell(x, 3, "sea;");
        before.stays("refused texts");
    }

    private static void daysLeave() {
        Check.holds("Promise 11", "DAYS go by (what was told stays)");
        VotedRiver x = busy();
        Check.due("days", x.days(3) >= 0, true);
        int[] told = {6, 1, 1, 120, 20, 5, 5};
        int[] what = {0, 6, 7, 10, 11, 12, 13};
        for (int i = 0; i < told.length; i++) {
            Check.due("look(" + what[i] + ")", x.look(what[i]), told[i]);
        }
        int[] need = {30, 40, 20};
        int[] town = {1, 2, 4};
        for (int i = 0; i < need.length; i++) {
            Check.due("need of " + town[i], x.of(town[i], 1), need[i]);
        }
        Check.due("an arm", x.node(3, 10), 4);
        tapeStays(x, "days");
    }

    private static void undoneDays() {
        Check.holds("Promise 29", "the latest DAY not undone yet goes back (to just what was; the TAPE and fault() stay)");
        VotedRiver x = busy();
        Sight before = Sight.of(x);
        x.days(4);
        for (int day = 0; day < 4; day++) {
            Check.due("undo", x.undo(), true);
        }
        before.stays("four days undone");
        tapeStays(x, "four days undone");
    }

    private static void imageTaken() {
        Check.holds("Promise 30", "THE IMAGE is taken (nothing changes)");
        VotedRiver x = busy();
        x.days(2);
        Sight before = Sight.of(x);
        x.image(true);
        before.stays("the taking of the image");
        tapeStays(x, "the taking of the image");
    }

    private static void imageGoneBackTo() {
        Check.holds("Promise 30", "gone back to: all as it was when it was taken (the TAPE and fault() stay)");
        VotedRiver x = busy();
        Sight before = Sight.of(x);
        x.image(true);
        x.days(2);
        x.dig(0, 0, 5);
        x.set(0, 1);
        Check.due("gone back", x.image(false), true);
        before.stays("going back to the image");
        tapeStays(x, "going back to the image");
    }
}

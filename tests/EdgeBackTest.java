/** Promises 29 to 31: the first and last days that go back, the image, and all that look tells. */
public final class EdgeBackTest {
    private static final int NONE = Check.NONE;
    private static final String PAIR = "fork to 1 and 2;town 30 needs 60 to 3;town 20 needs 40 to 3;sea;";

    public static void main(String[] args) {
        nothingToUndo();
        fiveAreKept();
        undoneAndDoneAgain();
        stateAndBookGoBack();
        whatForgets();
        whatIsRefusedForgetsNothing();
        lawsForgetNothing();
        takingForgetsNothing();
        askingForgetsNothing();
        noImage();
        imageMoreThanOnce();
        imageWithoutTheRest();
        imageOfAll();
        imageFromWhichAllGoesOn();
        imageStays();
        lookAtAnotherWhat();
        lookAtTheMost();
        Check.finish();
    }

    private static void nothingToUndo() {
        Check.holds("Promise 29", "false if there is nothing");
        VotedRiver x = Check.river(PAIR);
        Sight before = Sight.of(x);
        Check.due("undo at first", x.undo(), false);
        Check.due("undo once more", x.undo(), false);
        before.stays("undo without a day");
        x.days(1);
        Check.due("undo behind a day", x.undo(), true);
        before.stays("a day that went back");
        Check.due("undo then", x.undo(), false);
        before.stays("undo of nothing");
    }

    private static void fiveAreKept() {
        Check.holds("Promise 29", "UNDO: 5 are kept");
        for (int days : new int[] {1, 4, 5, 6, 7, 11, 100}) {
            VotedRiver x = Check.river(PAIR);
            x.days(days);
            int kept = Math.min(days, 5);
            Check.due("what can be undone of " + days, x.look(8), kept);
            for (int i = 1; i <= kept; i++) {
                Check.due("undo " + i + " of " + days, x.undo(), true);
                Check.due("the day", x.look(1), days - i);
                Check.due("what can be undone", x.look(8), kept - i);
            }
            Check.due("one more", x.undo(), false);
            Check.due("the day stays", x.look(1), days - kept);
        }
    }

    private static void undoneAndDoneAgain() {
        Check.holds("Promise 29", "the latest DAY not undone yet goes back");
        VotedRiver x = Check.river(PAIR);
        x.days(5);
        Check.due("undo", x.undo(), true);
        Check.due("undo", x.undo(), true);
        Check.due("a day again", x.days(1), 0);
        Check.due("four can be undone", x.look(8), 4);
        x.days(1);
        Check.due("five can be undone", x.look(8), 5);
        x.days(1);
        Check.due("not more than five", x.look(8), 5);
        for (int i = 0; i < 5; i++) {
            Check.due("undo " + i, x.undo(), true);
        }
        Check.due("undo of a sixth", x.undo(), false);
        Check.due("the day", x.look(1), 1);
    }

    private static void stateAndBookGoBack() {
        Check.holds("Promise 29", "the latest DAY goes back (STATE, THE BOOK, too)");
        VotedRiver x = Check.river(PAIR);
        x.set(2, 400);
        x.set(3, 400);
        x.town(2, 2, 2);
        x.buy(0, 1, 10);
        Sight[] before = new Sight[3];
        int[] state = new int[3];
        for (int day = 0; day < 3; day++) {
            state[day] = x.look(5);
            x.days(1);
            x.undo();
            before[day] = Sight.of(x);
            x.days(1);
        }
        for (int day = 2; day >= 0; day--) {
            Check.due("undo of day " + day, x.undo(), true);
            Check.due("the state", x.look(5), state[day]);
            Check.due("lines", x.look(2), day);
            Check.due("no line of it", x.book(day, 0), NONE);
        }
        before[0].stays("all days that went back");
        Check.due("bought is there again", x.fork(0, 21), 10);
    }

    private static VotedRiver twoDays() {
        VotedRiver x = Check.river(PAIR);
        x.image(true);
        x.days(2);
        Check.due("two can be undone", x.look(8), 2);
        return x;
    }

    private static void forgot(String what, boolean told, VotedRiver x) {
        Check.due(what, told, true);
        Check.due("what can be undone behind " + what, x.look(8), 0);
        Check.due("undo behind " + what, x.undo(), false);
    }

    private static void whatForgets() {
        Check.holds("Promise 29", "whatever else is told .. forgets them");
        VotedRiver x = twoDays();
        forgot("state(0)", x.state(0) == 0, x);
        for (int what = 0; what < 4; what++) {
            x = twoDays();
            forgot("set(" + what + ", 0)", x.set(what, 0), x);
            x = twoDays();
            forgot("town(1, " + what + ", ..)", x.town(1, what, what == 1 ? 60 : 0), x);
        }
        x = twoDays();
        forgot("buy(0, 0, 0)", x.buy(0, 0, 0), x);
        x = twoDays();
        forgot("dig(0, 0, 2)", x.dig(0, 0, 2), x);
        x = twoDays();
        forgot("a delta", Check.tell(x, Check.DELTA, PAIR) == 4, x);
        x = twoDays();
        forgot("image(false)", x.image(false), x);
    }

    private static void remembers(String what, boolean refused, VotedRiver x) {
        Check.due(what + " is refused", refused, true);
        Check.due("what can be undone behind " + what, x.look(8), 2);
    }

    private static void whatIsRefusedForgetsNothing() {
        Check.holds("Promise 29", "whatever else is told .. forgets them (what is refused is not told)");
        VotedRiver x = Check.river(PAIR);
        x.days(2);
        remembers("set(0, 1000)", !x.set(0, 1000), x);
        remembers("set(4, 0)", !x.set(4, 0), x);
        remembers("town(1, 1, 0)", !x.town(1, 1, 0), x);
        remembers("town(0, 0, 1)", !x.town(0, 0, 1), x);
        remembers("buy(0, 2, 1)", !x.buy(0, 2, 1), x);
        remembers("dig(0, 0, 0)", !x.dig(0, 0, 0), x);
        remembers("days(0)", x.days(0) == NONE, x);
        remembers("days(101)", x.days(101) == NONE, x);
        remembers("image(false)", !x.image(false), x);
        remembers("a delta", Check.tell(x, Check.DELTA, "sea") == NONE, x);
        remembers("a law", Check.tell(x, Check.VOTES, "vote") == NONE, x);
        remembers("text(3)", x.text(3) == NONE, x);
        Check.due("undo", x.undo(), true);
        Check.due("undo", x.undo(), true);
        Check.due("the day", x.look(1), 0);
    }

    private static void lawsForgetNothing() {
        Check.holds("Promise 29", "but both LAWS");
        VotedRiver x = Check.river(PAIR);
        x.days(2);
        Check.due("a law of votes", Check.tell(x, Check.VOTES, "vote 3;vote 4;"), 2);
        Check.due("two can be undone", x.look(8), 2);
        Check.due("a law of moves", Check.tell(x, Check.MOVES, "move 2;"), 1);
        Check.due("two can be undone still", x.look(8), 2);
        Check.due("undo", x.undo(), true);
        Check.due("undo", x.undo(), true);
        Check.due("the law of votes stays", x.look(6), 2);
        Check.due("the law of moves stays", x.look(7), 1);
        Check.due("votes by it", x.votes(1, 0, 0), 3);
        Check.due("moves by it", x.of(1, 8), 2);
    }

    private static void takingForgetsNothing() {
        Check.holds("Promise 29", "(the taking of THE IMAGE does not)");
        VotedRiver x = Check.river(PAIR);
        x.days(5);
        Check.due("taken", x.image(true), true);
        Check.due("five can be undone", x.look(8), 5);
        Check.due("undo", x.undo(), true);
        Check.due("the day", x.look(1), 4);
        Check.due("the image is not undone", x.image(false), true);
        Check.due("its day", x.look(1), 5);
    }

    private static void askingForgetsNothing() {
        Check.holds("Term 4", "nothing of it stays (what can be undone does)");
        VotedRiver x = Check.river(PAIR);
        x.days(3);
        x.later(3, 1, 0);
        x.ends(0);
        x.thirst(1);
        x.least(2, 0);
        x.best(0);
        x.most(6);
        x.mud(6, 0);
        Check.due("three can be undone", x.look(8), 3);
        for (int i = 0; i < 3; i++) {
            Check.due("undo", x.undo(), true);
        }
        Check.due("the day", x.look(1), 0);
    }

    private static void noImage() {
        Check.holds("Promise 30", "gone back to (false): false if there is none");
        VotedRiver x = Check.river(PAIR);
        x.days(2);
        Sight before = Sight.of(x);
        Check.due("image(false)", x.image(false), false);
        Check.due("image(false) again", x.image(false), false);
        before.stays("an image that is not there");
        Check.due("undo", x.undo(), true);
    }

    private static void imageMoreThanOnce() {
        Check.holds("Promise 30", "gone back to it may be more than once");
        VotedRiver x = Check.river(PAIR);
        Check.due("taken", x.image(true), true);
        Sight before = Sight.of(x);
        for (int i = 1; i < 4; i++) {
            x.days(i);
            x.dig(0, 0, 3);
            Check.due("gone back to", x.image(false), true);
            before.stays("going back for time " + i);
        }
        x.days(1);
        Check.due("taken anew", x.image(true), true);
        x.days(1);
        Check.due("gone back to the new one", x.image(false), true);
        Check.due("its day", x.look(1), 1);
    }

    private static void imageWithoutTheRest() {
        Check.holds("Term 4", "THE IMAGE: all but the TAPE, fault() and what can be undone (nothing then)");
        VotedRiver x = Check.river(PAIR);
        x.days(3);
        x.image(true);
        Check.due("a fault", Check.tell(x, Check.VOTES, "vote"), NONE);
        x.feed(0, 0, 0, 0, 0);
        Check.due("gone back to", x.image(false), true);
        Check.due("fault(0)", x.fault(0), 1);
        Check.due("fault(1)", x.fault(1), 4);
        Check.due("the tape has twenty", x.end(20), true);
        Check.due("the tape has no more", x.end(21), false);
        Check.due("nothing can be undone", x.look(8), 0);
        Check.due("undo", x.undo(), false);
        x.days(1);
        Check.due("a day can", x.look(8), 1);
        Check.due("that day alone", x.undo(), true);
        Check.due("to the image's day", x.look(1), 3);
        Check.due("not behind it", x.undo(), false);
    }

    private static void imageOfAll() {
        Check.holds("Term 4", "THE IMAGE: all that is and was told .., as it was when it was taken");
        VotedRiver x = Check.river(PAIR);
        Check.tell(x, Check.VOTES, "vote 3;vote 4;");
        Check.tell(x, Check.MOVES, "move 2;");
        x.set(1, 9);
        x.set(2, 8);
        x.set(3, 7);
        x.town(2, 2, 2);
        x.town(2, 3, 77);
        x.days(2);
        x.buy(0, 1, 12);
        x.image(true);
        Sight before = Sight.of(x);
        x.days(1);
        Check.tell(x, Check.DELTA, "fork to 1 and 1;fork to 2 and 2;town 7 needs 1 to 3;sea;");
        x.days(2);
        Check.tell(x, Check.VOTES, "");
        Check.tell(x, Check.MOVES, "move 1;move 1;");
        x.set(0, 1);
        x.set(1, 1);
        x.set(2, 1);
        x.set(3, 1);
        x.state(99);
        x.days(1);
        Check.due("gone back to", x.image(false), true);
        before.stays("going back");
        Check.due("votes", x.votes(1, 0, 0), 3);
        Check.due("bought", x.fork(0, 21), 12);
    }

    private static void imageFromWhichAllGoesOn() {
        Check.holds("Term 4", "THE IMAGE: all that is and was told .. as it was when it was taken (all goes on from it)");
        VotedRiver x = Check.river(PAIR);
        x.set(2, 300);
        x.set(3, 300);
        x.days(3);
        x.image(true);
        x.days(5);
        Sight then = Sight.of(x);
        x.image(false);
        x.days(5);
        then.stays("the same days anew");
        x.image(false);
        x.days(4);
        Check.due("the days behind it can be undone", x.look(8), 4);
    }

    private static void imageStays() {
        Check.holds("Term 2", "Told: all is as at first but .. THE IMAGE");
        VotedRiver x = new VotedRiver();
        Check.due("taken at first", x.image(true), true);
        Check.tell(x, Check.DELTA, PAIR);
        x.days(2);
        x.undo();
        Check.due("gone back to", x.image(false), true);
        Check.due("a sea alone", x.look(0), 1);
        Check.due("the day", x.look(1), 0);
        Check.due("nothing came", x.look(3), 0);
    }

    private static void lookAtAnotherWhat() {
        Check.holds("Promise 31", "What 0 .. 13. NONE for another what");
        VotedRiver x = new VotedRiver();
        for (int what : new int[] {-1, -2, 14, 15, 100, Check.LOWEST, Check.HIGHEST}) {
            Check.due("look(" + what + ")", x.look(what), NONE);
        }
        Check.due("look(0)", x.look(0), 1);
        Check.due("look(13)", x.look(13), 0);
    }

    private static void lookAtTheMost() {
        Check.holds("Promise 31", "0 NODES .. 13 SPATE (all places full)");
        StringBuilder delta = new StringBuilder("fork to 1 and 1;");
        for (int i = 1; i < 15; i++) {
            delta.append("town 1 needs 1 to ").append(i + 1).append(";");
        }
        VotedRiver x = Check.river(delta + "sea;");
        Check.tell(x, Check.VOTES, "vote 1;".repeat(16));
        Check.tell(x, Check.MOVES, "move 0;".repeat(16));
        for (int town = 1; town < 15; town++) {
            x.town(town, 0, 9999);
        }
        x.set(0, 999);
        x.set(1, 33);
        x.set(2, 1000);
        x.set(3, 1000);
        Check.due("floods", x.days(100), 100);
        Check.due("floods", x.days(100), 100);
        int[] what = {0, 1, 2, 3, 4, 6, 7, 8, 9, 10, 11, 12, 13};
        int[] want = {16, 200, 150, 200 * (499 - 14), 200, 16, 16, 5, 14 * 9999, 999, 33, 1000, 1000};
        for (int i = 0; i < what.length; i++) {
            Check.due("look(" + what[i] + ")", x.look(what[i]), want[i]);
        }
        VotedRiver first = Check.river("town 7 needs 1 to 1;town 8 needs 1 to 2;sea;");
        Check.due("all heads, of the first node too", first.look(9), 15);
        VotedRiver last = new VotedRiver();
        last.set(0, 999);
        last.set(3, 1000);
        for (int i = 0; i < 99; i++) {
            last.days(100);
        }
        last.days(99);
        Check.due("the last day", last.look(1), 9999);
        Check.due("the most that can come to seas", last.look(3), 9999 * 1998);
    }
}

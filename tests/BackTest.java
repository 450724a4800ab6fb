/** Promises 29 to 31: days undone, the image, and a look at all. */
public final class BackTest {
    private static final int NONE = VotedRiver.NONE;
    private static final String TWO = "fork to 1 and 2;town 30 needs 60 to 3;town 20 needs 40 to 3;sea;";

    public static void main(String[] args) {
        undoGoesBack();
        fiveAreKept();
        whatForgets();
        whatDoesNotForget();
        lawsStayBehindUndo();
        image();
        imageHasAll();
        look();
        wildCalls();
        Check.finish();
    }

    private static void undoGoesBack() {
        VotedRiver x = Check.river(TWO);
        x.set(2, 300);
        x.set(3, 300);
        x.buy(0, 1, 10);
        int[] before = all(x);
        Check.due("a flood", x.days(1), 1);
        int[] between = all(x);
        x.days(1);
        Check.due("undo", x.undo(), true);
        same("behind one undo", all(x), between, 1);
        Check.due("undo", x.undo(), true);
        same("behind two", all(x), before, 0);
        Check.due("bought is there again", x.fork(0, 21), 10);
        Check.due("nothing more", x.undo(), false);
        x.days(1);
        for (int what = 0; what < 8; what++) {
            Check.due("the same day anew, look(" + what + ")", x.look(what), between[what]);
        }
    }

    private static int[] all(VotedRiver x) {
        int[] all = new int[200];
        int at = 0;
        for (int what = 0; what < 14; what++) {
            all[at++] = what == 8 ? 0 : x.look(what);
        }
        for (int node = 0; node < 4; node++) {
            for (int what = 0; what < 9; what++) {
                all[at++] = x.of(node, what);
            }
            for (int what : new int[] {0, 1, 10, 11, 12, 20, 21, 22}) {
                all[at++] = x.fork(node, what);
            }
            for (int to = 0; to < 4; to++) {
                all[at++] = x.came(node, to);
            }
        }
        for (int what = 0; what < 4; what++) {
            all[at++] = x.book(0, what);
            all[at++] = x.book(1, what);
        }
        return all;
    }

    private static void same(String when, int[] got, int[] want, int lines) {
        for (int i = 0; i < want.length; i++) {
            Check.due(when + " (" + i + ")", got[i], want[i]);
        }
        Check.due(when + ": lines", got[2], lines);
    }

    private static void fiveAreKept() {
        VotedRiver x = new VotedRiver();
        x.days(3);
        Check.due("three", x.look(8), 3);
        x.days(10);
        Check.due("five", x.look(8), 5);
        x.undo();
        x.undo();
        Check.due("three are left", x.look(8), 3);
        x.days(1);
        Check.due("four then", x.look(8), 4);
        for (int i = 0; i < 4; i++) {
            Check.due("undo " + i, x.undo(), true);
        }
        Check.due("no more", x.undo(), false);
        Check.due("the day", x.look(1), 8);
        Check.due("all that came to seas", x.look(3), 800);
    }

    private static void forgets(String what, boolean told, VotedRiver x) {
        Check.due(what + " is told", told, true);
        Check.due(what + " forgets", x.look(8), 0);
        Check.due("undo behind " + what, x.undo(), false);
        x.days(1);
        Check.due("a day behind " + what, x.look(8), 1);
    }

    private static void whatForgets() {
        VotedRiver x = Check.river(TWO);
        x.days(2);
        forgets("state", x.state(0) == 0, x);
        forgets("set", x.set(0, 100), x);
        forgets("town", x.town(1, 2, 1), x);
        forgets("buy", x.buy(0, 0, 0), x);
        forgets("dig", x.dig(0, 1, 2), x);
        x.image(true);
        forgets("the image", x.image(false), x);
        forgets("a delta", Check.tell(x, Check.DELTA, TWO) == 4, x);
    }

    private static void whatDoesNotForget() {
        VotedRiver x = Check.river(TWO);
        x.days(2);
        Check.due("no image", x.image(false), false);
        x.image(true);
        x.set(0, 1000);
        x.set(9, 1);
        x.town(1, 1, 0);
        x.town(0, 1, 1);
        x.buy(0, 5, 1);
        x.dig(0, 0, 0);
        x.days(0);
        Check.tell(x, Check.VOTES, "vote 1;");
        Check.tell(x, Check.VOTES, "vote;");
        Check.tell(x, Check.MOVES, "move 1;");
        Check.tell(x, Check.DELTA, "fork;");
        x.text(7);
        Check.due("both are kept", x.look(8), 2);
        Check.due("undo", x.undo(), true);
        Check.due("undo", x.undo(), true);
        Check.due("undo", x.undo(), false);
    }

    private static void lawsStayBehindUndo() {
        VotedRiver x = Check.river(TWO);
        x.days(1);
        Check.tell(x, Check.VOTES, "vote 3;vote 4;");
        Check.tell(x, Check.MOVES, "move 2;");
        x.undo();
        Check.due("lines of votes", x.look(6), 2);
        Check.due("lines of moves", x.look(7), 1);
        Check.due("votes", x.votes(1, 0, 0), 3);
        Check.due("moves", x.of(1, 8), 2);
    }

    private static void image() {
        VotedRiver x = Check.river(TWO);
        Check.due("none", x.image(false), false);
        Check.due("taken", x.image(true), true);
        x.days(5);
        Check.due("gone back to", x.image(false), true);
        Check.due("the day", x.look(1), 0);
        Check.due("nothing can be undone", x.undo(), false);
        x.days(3);
        Check.due("gone back to once more", x.image(false), true);
        Check.due("the day then", x.look(1), 0);
        x.days(2);
        Check.due("taken anew", x.image(true), true);
        Check.due("its taking forgets nothing", x.look(8), 2);
        Check.due("undo", x.undo(), true);
        x.image(false);
        Check.due("the day of the new one", x.look(1), 2);
    }

    private static void imageHasAll() {
        VotedRiver x = Check.river(TWO);
        Check.tell(x, Check.VOTES, "vote 3;");
        Check.tell(x, Check.MOVES, "move 2;");
        x.set(0, 90);
        x.set(1, 9);
        x.set(2, 8);
        x.set(3, 7);
        x.town(2, 2, 2);
        x.town(2, 3, 77);
        x.days(1);
        x.buy(0, 1, 12);
        x.image(true);
        int[] taken = all(x);
        x.days(4);
        x.state(3);
        x.set(0, 1);
        x.set(1, 1);
        x.set(2, 1);
        x.set(3, 1);
        Check.tell(x, Check.DELTA, "fork to 1 and 1;town 77 needs 1 to 2;sea;");
        x.days(2);
        Check.tell(x, Check.DELTA, "sea;sea;");
        Check.tell(x, Check.VOTES, "");
        Check.tell(x, Check.MOVES, "move 1;move 1;");
        Check.due("a fault", Check.tell(x, Check.MOVES, "move"), NONE);
        x.feed(0x73656120, 0, 0, 0, 0);
        x.image(false);
        same("the image", all(x), taken, 1);
        Check.due("fault() is not of it", x.fault(0), 1);
        Check.due("its place neither", x.fault(1), 4);
        Check.due("the tape neither", x.end(20), true);
    }

    private static void look() {
        VotedRiver x = Check.river("fork to 1 and 2;town 30 needs 10 to 3;town 30 needs 40 to 3;sea;");
        Check.tell(x, Check.VOTES, "vote 9;vote 8;");
        Check.tell(x, Check.MOVES, "move 0;move 0;move 0;");
        x.set(1, 1);
        x.set(2, 0);
        x.set(3, 1000);
        x.state(5);
        x.days(2);
        int state = (5 * 1664525 + 1013904223) * 1664525 + 1013904223;
        int[] want = {4, 2, 2, 2 * 200 - 2 * 10 - 2 - 40, 2, state, 2, 3, 2, 60, 100, 1, 0, 1000};
        for (int what = 0; what < want.length; what++) {
            Check.due("look(" + what + ")", x.look(what), want[what]);
        }
        for (int other : new int[] {-1, 14, 99, Integer.MIN_VALUE, Integer.MAX_VALUE}) {
            Check.due("look(" + other + ")", x.look(other), NONE);
        }
    }

    /** No call may throw, whatever its numbers are; each object is used for some 150 calls. */
    private static void wildCalls() {
        int[] some = {Integer.MIN_VALUE, Integer.MIN_VALUE + 10, -21, -11, -10, -1, 0, 1, 2, 3, 10, 11, 12, 15, 16, 20,
            22, 25, 26, 31, 32, 100, Integer.MAX_VALUE};
        int calls = 0;
        for (int a : some) {
            for (int b : some) {
                VotedRiver x = Check.river("fork to 1 and 2 and 15;fork to 3 and 3;town 30 needs 60 to 3;"
                        + "town 20 needs 40 to 15;sea;sea;sea;sea;sea;sea;sea;sea;sea;sea;sea;sea;");
                x.days(3);
                wildCalls(x, a);
                wildCalls(x, a, b);
                for (int c : some) {
                    wildCalls(x, a, b, c);
                    calls++;
                }
            }
        }
        Check.due("all calls came back", calls, some.length * some.length * some.length);
    }

    private static void wildCalls(VotedRiver x, int a) {
        x.fault(a);
        x.ends(a);
        x.thirst(a);
        x.best(a);
        x.most(a);
        x.twice(a);
        x.look(a);
        x.end(a);
        x.text(a < 0 || a > 2 ? a : 3);
    }

    private static void wildCalls(VotedRiver x, int a, int b) {
        x.node(a, b);
        x.fork(a, b);
        x.of(a, b);
        x.came(a, b);
        x.book(a, b);
        x.power(a, b);
        x.fewest(a, b);
        x.least(a, b);
        x.mud(a, b);
    }

    private static void wildCalls(VotedRiver x, int a, int b, int c) {
        x.votes(a, b, c);
        x.later(a, b, c);
        x.rows(a, b, c, a);
        x.town(a, b, c);
        x.buy(a, b, c);
        x.dig(a, b, c);
    }
}

/** Promises 1 to 6 and 11 to 17: what is told by calls, days, and what is told of them. */
public final class DayTest {
    private static final int NONE = VotedRiver.NONE;
    private static final String TWO = "fork to 1 and 2;town 30 needs 60 to 3;town 20 needs 40 to 3;sea;";
    private static final int[] WILD = {-1, 4, 16, 99, Integer.MIN_VALUE, Integer.MAX_VALUE};

    public static void main(String[] args) {
        newObject();
        state();
        set();
        town();
        buy();
        dig();
        days();
        node();
        fork();
        of();
        votes();
        came();
        book();
        water();
        drawnWater();
        evenings();
        defeats();
        lawsOfVotes();
        lawsOfMoves();
        moving();
        Check.finish();
    }

    private static void newObject() {
        VotedRiver x = new VotedRiver();
        int[] want = {1, 0, 0, 0, 0, 0, 0, 0, 0, 0, 100, 0, 0, 0};
        for (int what = 0; what < want.length; what++) {
            Check.due("look(" + what + ") at first", x.look(what), want[what]);
        }
        Check.due("node(0, 0)", x.node(0, 0), 2);
        Check.due("node(0, 1)", x.node(0, 1), 0);
        Check.due("undo()", x.undo(), false);
        Check.due("image(false)", x.image(false), false);
    }

    private static void state() {
        Check.due("all heads", Check.river("town 7 needs 1 to 1;town 8 needs 1 to 2;sea;").look(9), 15);
        VotedRiver x = new VotedRiver();
        Check.due("state(5)", x.state(5), 0);
        Check.due("state(-7)", x.state(-7), 5);
        Check.due("look(5)", x.look(5), -7);
        x.days(1);
        Check.due("no draw without drought and spate", x.look(5), -7);
        x.set(3, 1);
        x.state(1);
        x.days(2);
        int once = 1 * 1664525 + 1013904223;
        Check.due("two draws", x.look(5), once * 1664525 + 1013904223);
    }

    private static void set() {
        VotedRiver x = new VotedRiver();
        int[] most = {999, 33, 1000, 1000};
        for (int what = 0; what < 4; what++) {
            Check.due("set to its most", x.set(what, most[what]), true);
            Check.due("its most", x.look(10 + what), most[what]);
            Check.due("set above", x.set(what, most[what] + 1), false);
            Check.due("set below", x.set(what, -1), false);
            Check.due("it stays", x.look(10 + what), most[what]);
            Check.due("set to 0", x.set(what, 0), true);
            Check.due("it is 0", x.look(10 + what), 0);
        }
        for (int what : WILD) {
            Check.due("set(" + what + ", 1)", x.set(what, 1), false);
        }
    }

    private static void town() {
        VotedRiver x = Check.river(TWO);
        Check.due("heads", x.town(1, 0, 9999), true);
        Check.due("heads then", x.of(1, 0), 9999);
        Check.due("heads above", x.town(1, 0, 10000), false);
        Check.due("heads 0", x.town(1, 0, 0), true);
        Check.due("heads below", x.town(1, 0, -1), false);
        Check.due("need 0", x.town(1, 1, 0), false);
        Check.due("need 1", x.town(1, 1, 1), true);
        Check.due("need 999", x.town(1, 1, 999), true);
        Check.due("need 1000", x.town(1, 1, 1000), false);
        Check.due("need then", x.of(1, 1), 999);
        Check.due("store without dams", x.town(1, 3, 1), false);
        Check.due("store 0 without dams", x.town(1, 3, 0), true);
        Check.due("dams 10", x.town(1, 2, 10), false);
        Check.due("dams 9", x.town(1, 2, 9), true);
        Check.due("store 451", x.town(1, 3, 451), false);
        Check.due("store 450", x.town(1, 3, 450), true);
        Check.due("dams 3", x.town(1, 2, 3), true);
        Check.due("store of three dams", x.of(1, 3), 150);
        Check.due("dams 4", x.town(1, 2, 4), true);
        Check.due("store stays", x.of(1, 3), 150);
        Check.due("dams -1", x.town(1, 2, -1), false);
        Check.due("store -1", x.town(1, 3, -1), false);
        Check.due("got can't be told", x.town(1, 4, 1), false);
        Check.due("what -1", x.town(1, -1, 1), false);
        Check.due("a fork", x.town(0, 0, 1), false);
        Check.due("a sea", x.town(3, 0, 1), false);
        for (int node : WILD) {
            Check.due("town(" + node + ", 0, 1)", x.town(node, 0, 1), false);
        }
    }

    private static void buy() {
        VotedRiver x = Check.river(TWO);
        Check.due("buy 999", x.buy(0, 1, 999), true);
        Check.due("bought", x.fork(0, 21), 999);
        Check.due("buy 1000", x.buy(0, 1, 1000), false);
        Check.due("buy -1", x.buy(0, 1, -1), false);
        Check.due("buy 11", x.buy(0, 1, 11), true);
        Check.due("told anew", x.fork(0, 21), 11);
        Check.due("not counted", x.fork(0, 11), 20);
        Check.due("no such arm", x.buy(0, 2, 1), false);
        Check.due("arm -1", x.buy(0, -1, 1), false);
        Check.due("a town", x.buy(1, 0, 1), false);
        for (int node : WILD) {
            Check.due("buy(" + node + ", 0, 1)", x.buy(node, 0, 1), false);
        }
        Check.due("days", x.days(1), 0);
        Check.due("open", x.fork(0, 0), 2);
        Check.due("won", x.fork(0, 1), 1);
        Check.due("bought is 0", x.fork(0, 21), 0);
        Check.due("the book has what was bought", x.book(0, 3), 31);
    }

    private static void dig() {
        VotedRiver x = Check.river("fork to 1 and 2;fork to 2 and 3;town 5 needs 1 to 3;sea;");
        Check.due("dig", x.dig(0, 0, 3), true);
        Check.due("it goes there", x.node(0, 10), 3);
        Check.due("where it goes already", x.dig(0, 0, 3), true);
        Check.due("votes from there", x.votes(2, 0, 0), 0);
        Check.due("to itself", x.dig(1, 0, 1), false);
        Check.due("below", x.dig(1, 0, 0), false);
        Check.due("not there", x.dig(1, 0, 4), false);
        Check.due("no such arm", x.dig(1, 2, 3), false);
        Check.due("a town", x.dig(2, 0, 3), false);
        for (int wild : WILD) {
            Check.due("fork " + wild, x.dig(wild, 0, 3), false);
            Check.due("arm " + wild, x.dig(0, wild, 3), false);
            Check.due("to " + wild, x.dig(0, 0, wild), false);
        }
        x.days(1);
        Check.due("the water goes there", x.came(0, 3), 100);
        Check.due("dig behind it", x.dig(0, 0, 1), true);
        Check.due("what came stays", x.came(0, 3), 100);
        Check.due("nothing came there", x.came(0, 1), 0);
    }

    private static void days() {
        VotedRiver x = new VotedRiver();
        Check.due("days(0)", x.days(0), NONE);
        Check.due("days(-1)", x.days(-1), NONE);
        Check.due("days(101)", x.days(101), NONE);
        Check.due("days(max)", x.days(Integer.MAX_VALUE), NONE);
        Check.due("nothing is done", x.look(1), 0);
        for (int i = 0; i < 99; i++) {
            Check.due("days(100)", x.days(100), 0);
        }
        Check.due("days above 9999", x.days(100), NONE);
        Check.due("nothing is done then", x.look(1), 9900);
        Check.due("days to 9999", x.days(99), 0);
        Check.due("the last day", x.look(1), 9999);
        Check.due("one more", x.days(1), NONE);
        Check.due("all that came to seas", x.look(3), 999900);
        VotedRiver y = Check.river("fork to 1 and 2;town 20 needs 1 to 3;town 20 needs 1 to 3;sea;");
        Check.tell(y, Check.MOVES, "move 0;");
        Check.due("a flood each day", y.days(7), 7);
        Check.due("floods in all", y.look(4), 7);
        Check.due("won", y.fork(0, 1), 0);
    }

    private static void node() {
        VotedRiver x = Check.river("fork to 1 and 2 and 3;town 30 needs 60 to 3;town 20 needs 40 to 3;sea;");
        int[][] want = {{0, 3, 1, 2, 3}, {1, 1, 3, NONE, NONE}, {1, 1, 3, NONE, NONE}, {2, 0, NONE, NONE, NONE}};
        int[] what = {0, 1, 10, 11, 12};
        for (int node = 0; node < 4; node++) {
            for (int i = 0; i < what.length; i++) {
                Check.due("node(" + node + ", " + what[i] + ")", x.node(node, what[i]), want[node][i]);
            }
        }
        for (int other : new int[] {-1, 2, 9, 13, 20, Integer.MIN_VALUE, Integer.MAX_VALUE}) {
            Check.due("node(0, " + other + ")", x.node(0, other), NONE);
        }
        for (int wild : WILD) {
            Check.due("node(" + wild + ", 0)", x.node(wild, 0), NONE);
        }
    }

    private static void fork() {
        VotedRiver x = Check.river(TWO);
        x.buy(0, 0, 3);
        int[] what = {0, 1, 10, 11, 20, 21};
        int[] want = {1, 0, 30, 20, 3, 0};
        for (int i = 0; i < what.length; i++) {
            Check.due("fork(0, " + what[i] + ")", x.fork(0, what[i]), want[i]);
        }
        for (int other : new int[] {-1, 2, 9, 12, 19, 22, 30, Integer.MIN_VALUE, Integer.MAX_VALUE}) {
            Check.due("fork(0, " + other + ")", x.fork(0, other), NONE);
        }
        Check.due("a town", x.fork(1, 0), NONE);
        Check.due("a sea", x.fork(3, 0), NONE);
        for (int wild : WILD) {
            Check.due("fork(" + wild + ", 0)", x.fork(wild, 0), NONE);
        }
        x.town(2, 0, 0);
        x.days(99);
        Check.due("won 99", x.fork(0, 1), 99);
        x.days(3);
        Check.due("99 at most", x.fork(0, 1), 99);
    }

    private static void of() {
        VotedRiver x = Check.river(TWO);
        int[] first = {30, 60, 0, 0, 0, 0, 0, 0, 3};
        for (int what = 0; what < first.length; what++) {
            Check.due("of(1, " + what + ") at first", x.of(1, what), first[what]);
        }
        x.days(1);
        int[] wet = {32, 60, 0, 0, 100, 0, 0, 1, 0};
        int[] dry = {18, 40, 0, 0, 0, 1, 1, 0, 1};
        for (int what = 0; what < wet.length; what++) {
            Check.due("of(1, " + what + ")", x.of(1, what), wet[what]);
            Check.due("of(2, " + what + ")", x.of(2, what), dry[what]);
        }
        x.days(100);
        Check.due("dry 99 at most", x.of(2, 5), 99);
        Check.due("of(1, 9)", x.of(1, 9), NONE);
        Check.due("of(1, -1)", x.of(1, -1), NONE);
        Check.due("a fork", x.of(0, 0), NONE);
        Check.due("a sea", x.of(3, 0), NONE);
        for (int wild : WILD) {
            Check.due("of(" + wild + ", 0)", x.of(wild, 0), NONE);
            Check.due("of(1, " + wild + ")", x.of(1, wild), wild == 4 ? 100 : NONE);
        }
    }

    private static void votes() {
        VotedRiver x = Check.river(TWO);
        Check.due("for its arm", x.votes(1, 0, 0), 30);
        Check.due("for another arm", x.votes(1, 0, 1), 0);
        Check.due("no such arm", x.votes(1, 0, 2), NONE);
        Check.due("arm -1", x.votes(1, 0, -1), NONE);
        Check.due("a fork does not vote", x.votes(0, 0, 0), NONE);
        Check.due("a sea does not vote", x.votes(3, 0, 0), NONE);
        Check.due("a town is no fork", x.votes(1, 1, 0), NONE);
        for (int wild : WILD) {
            Check.due("votes(" + wild + ", 0, 0)", x.votes(wild, 0, 0), NONE);
            Check.due("votes(1, " + wild + ", 0)", x.votes(1, wild, 0), NONE);
            Check.due("votes(1, 0, " + wild + ")", x.votes(1, 0, wild), NONE);
        }
        VotedRiver y = Check.river("town 9 needs 1 to 1;fork to 2 and 2;sea;");
        Check.due("a town above the fork", y.votes(0, 1, 0), 0);
    }

    private static void came() {
        VotedRiver x = Check.river("fork to 1 and 1 and 2;town 30 needs 60 to 2;sea;");
        Check.due("at first", x.came(0, 1), 0);
        x.set(1, 10);
        x.days(1);
        Check.due("by two arms", x.came(0, 1), 90);
        Check.due("by one", x.came(0, 2), 10);
        Check.due("from a town", x.came(1, 2), 30);
        Check.due("back", x.came(2, 0), 0);
        x.days(1);
        Check.due("of the latest day alone", x.came(0, 1), 90);
        for (int wild : WILD) {
            Check.due("came(" + wild + ", 0)", x.came(wild, 0), NONE);
            Check.due("came(0, " + wild + ")", x.came(0, wild), NONE);
        }
    }

    private static void book() {
        VotedRiver x = Check.river("fork to 1 and 2;fork to 2 and 3;town 20 needs 10 to 3;sea;");
        Check.due("no line", x.book(0, 0), NONE);
        x.days(2);
        int[][] want = {{0, 0, 3, 20}, {0, 1, 1, 20}, {1, 0, 3, 20}, {1, 1, 1, 20}};
        for (int i = 0; i < 4; i++) {
            for (int what = 0; what < 4; what++) {
                Check.due("book(" + i + ", " + what + ")", x.book(i, what), want[i][what]);
            }
        }
        Check.due("book(4, 0)", x.book(4, 0), NONE);
        Check.due("book(0, 4)", x.book(0, 4), NONE);
        Check.due("book(0, -1)", x.book(0, -1), NONE);
        for (int wild : WILD) {
            Check.due("book(" + wild + ", 0)", x.book(wild, 0), NONE);
        }
        x.days(90);
        Check.due("150 lines", x.look(2), 150);
        Check.due("the last one's day", x.book(149, 0), 74);
        Check.due("the last one's fork", x.book(149, 1), 1);
        Check.due("behind the last one", x.book(150, 0), NONE);
        VotedRiver y = Check.river("fork to 1 and 1;sea;");
        y.days(1);
        Check.due("nobody votes: a line", y.look(2), 1);
        Check.due("nobody votes: open", y.book(0, 2), 1);
        Check.due("nobody votes: the most", y.book(0, 3), 0);
        Check.due("nobody votes: won", y.fork(0, 1), 0);
        y.buy(0, 1, 7);
        y.days(1);
        Check.due("what is bought alone: a line", y.look(2), 2);
        Check.due("what is bought alone: open", y.book(1, 2), 2);
        Check.due("what is bought alone: the most", y.book(1, 3), 7);
    }

    private static void water() {
        VotedRiver x = Check.river("fork to 1 and 2 and 3;town 10 needs 5 to 4;town 10 needs 5 to 4;sea;sea;");
        x.set(0, 101);
        x.set(1, 33);
        x.days(1);
        Check.due("the open one", x.came(0, 1), 35);
        Check.due("a trickle", x.came(0, 2), 33);
        Check.due("another trickle", x.came(0, 3), 33);
        Check.due("two are open", x.fork(0, 0), 3);
        x.days(1);
        Check.due("the first of the open ones", x.came(0, 1), 34);
        Check.due("the second of the open ones", x.came(0, 2), 34);
        Check.due("the trickle", x.came(0, 3), 33);
        Check.due("all that came to seas", x.look(3), 2 * (101 - 10));
        VotedRiver y = Check.river("town 10 needs 60 to 1;sea;");
        y.town(0, 2, 1);
        y.days(1);
        Check.due("the store takes", y.of(0, 3), 40);
        Check.due("nothing goes on", y.came(0, 1), 0);
        y.days(1);
        Check.due("the store is full", y.of(0, 3), 50);
        Check.due("the rest goes on", y.came(0, 1), 30);
        y.set(0, 20);
        y.days(1);
        Check.due("the store gives", y.of(0, 3), 10);
        Check.due("wet by it", y.of(0, 7), 1);
        Check.due("got", y.of(0, 4), 20);
        y.days(1);
        Check.due("it gives all it has", y.of(0, 3), 0);
        Check.due("not wet", y.of(0, 7), 0);
        Check.due("dry", y.of(0, 5), 1);
        y.set(0, 60);
        y.days(1);
        Check.due("just its need", y.of(0, 7), 1);
        Check.due("dry no more", y.of(0, 5), 0);
    }

    /** What state gives a first draw below a bound: searched for, from 0 on. */
    private static int stateThatDraws(int least, int most) {
        for (int state = 0; state < 1000000; state++) {
            int drawn = (state * 1664525 + 1013904223 >>> 8) % 1000;
            if (drawn >= least && drawn <= most) {
                return state;
            }
        }
        return 0;
    }

    private static void drawnWater() {
        int[][] drawnAndFlow = {{299, 50}, {300, 202}, {0, 50}, {549, 202}, {550, 101}, {999, 101}};
        for (int[] pair : drawnAndFlow) {
            VotedRiver x = new VotedRiver();
            x.set(0, 101);
            x.set(2, 300);
            x.set(3, 250);
            x.state(stateThatDraws(pair[0], pair[0]));
            x.days(1);
            Check.due("flow by a draw of " + pair[0], x.look(3), pair[1]);
        }
    }

    private static void evenings() {
        VotedRiver x = Check.river("fork to 1 and 2 and 3;town 10 needs 5 to 4;town 9 needs 5 to 4;sea;sea;");
        Check.tell(x, Check.MOVES, "move 0;");
        x.days(2);
        Check.due("won twice", x.fork(0, 1), 2);
        x.buy(0, 2, 10);
        Check.due("a flood", x.days(1), 1);
        Check.due("the first and the third", x.fork(0, 0), 5);
        Check.due("won 0", x.fork(0, 1), 0);
        x.buy(0, 1, 2);
        Check.due("no flood", x.days(1), 0);
        Check.due("the second", x.fork(0, 0), 2);
        Check.due("another one has won once", x.fork(0, 1), 1);
        Check.due("defeats of who voted for none that is open", x.of(1, 6), 1);
        x.town(1, 0, 0);
        x.town(2, 0, 0);
        x.days(1);
        Check.due("nobody votes: open stays", x.fork(0, 0), 2);
        Check.due("nobody votes: won stays", x.fork(0, 1), 1);
        x.buy(0, 2, 1);
        x.days(1);
        Check.due("what is bought alone wins", x.fork(0, 0), 4);
    }

    private static void defeats() {
        VotedRiver x = Check.river("fork to 1 and 2;town 10 needs 5 to 3;town 9 needs 5 to 3;sea;");
        Check.tell(x, Check.MOVES, "move 0;");
        x.days(9);
        Check.due("nine defeats", x.of(2, 6), 9);
        x.days(1);
        Check.due("the tenth", x.of(2, 6), 0);
        Check.due("a dam", x.of(2, 2), 1);
        x.days(80);
        Check.due("nine dams", x.of(2, 2), 9);
        x.days(10);
        Check.due("nine at most", x.of(2, 2), 9);
        Check.due("defeats are 0 all the same", x.of(2, 6), 0);
        VotedRiver y = Check.river("fork to 1 and 2;fork to 3 and 4;town 50 needs 5 to 5;"
                + "town 9 needs 5 to 5;town 20 needs 1 to 5;sea;");
        Check.tell(y, Check.MOVES, "move 0;");
        y.days(1);
        Check.due("defeats at two forks", y.of(3, 6), 2);
        Check.due("defeats at one fork", y.of(4, 6), 1);
        Check.due("no defeat", y.of(2, 6), 0);
    }

    /** What a law of votes gives town 1 for arm 0 of fork 0, and town 3 for its arms 0 and 2. */
    private static void voteLaw(String law, int one, int threeByTown, int three) {
        VotedRiver x = Check.river("fork to 1 and 2 and 3;town 30 needs 60 to 3;fork to 3 and 4;"
                + "town 20 needs 50 to 4;sea;");
        Check.tell(x, Check.MOVES, "move 0;");
        x.set(0, 70);
        x.buy(0, 0, 900);
        x.days(2);
        Check.tell(x, Check.VOTES, law);
        Check.due(law + " town 1, arm 0", x.votes(1, 0, 0), one);
        Check.due(law + " town 3, arm 0", x.votes(3, 0, 0), threeByTown);
        Check.due(law + " town 3, arm 2", x.votes(3, 0, 2), three);
    }

    private static void lawsOfVotes() {
        voteLaw("vote heads;", 30, 20, 20);
        voteLaw("vote heads/7;", 4, 2, 2);
        voteLaw("vote dry+5;", 5, 7, 7);
        voteLaw("vote got/7;", 10, 1, 1);
        voteLaw("vote need/3;", 20, 16, 16);
        voteLaw("vote far;", 1, 2, 1);
        voteLaw("vote arm+1;", 1, 1, 3);
        voteLaw("vote won+1;", 3, 3, 1);
        voteLaw("vote twice+1;", 1, 2, 2);
        voteLaw("vote day+2;", 4, 4, 4);
        voteLaw("vote fork+3;", 3, 3, 3);
        VotedRiver x = Check.river("fork to 1 and 2 and 3;town 30 needs 60 to 3;fork to 3 and 4;"
                + "town 20 needs 50 to 4;sea;");
        Check.tell(x, Check.VOTES, "vote 7 when heads=30;vote 8 when twice=1 and fork=2;vote 0-9 when arm=1;vote 99;");
        Check.due("the first line that fits", x.votes(1, 0, 0), 7);
        Check.due("not twice at the other fork: held to heads", x.votes(3, 2, 0), 20);
        Check.due("below 0", x.votes(3, 0, 1), 0);
        Check.due("held to heads", x.votes(3, 0, 2), 20);
        Check.due("all of an arm", x.fork(0, 10), 27);
        Check.tell(x, Check.VOTES, "vote 5 when 1=2;");
        Check.due("no line fits: heads", x.votes(3, 0, 0), 20);
        VotedRiver near = Check.river("fork to 1 and 1;fork to 2 and 3;town 5 needs 7 to 3;town 9 needs 7 to 4;sea;");
        Check.tell(near, Check.VOTES, "vote far;");
        Check.due("the fewest steps", near.votes(3, 0, 0), 2);
        near.dig(1, 1, 4);
        Check.due("dug anew: the only way", near.votes(3, 0, 0), 3);
        near.dig(1, 0, 4);
        Check.due("dug anew: no way", near.votes(3, 0, 0), 0);
        VotedRiver flood = Check.river("fork to 1 and 2;town 5 needs 1 to 3;town 5 needs 1 to 3;sea;");
        flood.days(1);
        Check.tell(flood, Check.VOTES, "vote 1+won;");
        Check.due("won of an arm that is not open alone", flood.votes(1, 0, 0), 1);
        amounts();
        conditions();
    }

    private static void amount(String sum, int want) {
        VotedRiver x = Check.river("fork to 1 and 1;town 900 needs 7 to 2;sea;");
        x.town(1, 0, 9999);
        Check.due("told: " + sum, Check.tell(x, Check.VOTES, "vote " + sum + ";"), 1);
        Check.due(sum, x.votes(1, 0, 1), want);
    }

    private static void amounts() {
        amount("7-2-1", 4);
        amount("7-2*3+1", 2);
        amount("7*3/2*2", 20);
        amount("100/7/2", 7);
        amount("100-100/7*7+1", 3);
        amount("10+need*2-arm", 23);
        // Ints wrap: 2199560022 is below 0, 4299140043 is 4172747.
        amount("9999*9999*22", 0);
        amount("9999*9999*43-417*9999", 3164);
        // The wrapped product by 9999 is -209561.7: towards 0.
        amount("9999*9999*22/9999+21*9999", 418);
    }

    private static void condition(String when, boolean want) {
        VotedRiver x = Check.river("fork to 1 and 1;town 900 needs 7 to 2;sea;");
        Check.tell(x, Check.VOTES, "vote 1 when " + when + ";vote 2;");
        Check.due(when, x.votes(1, 0, 1), want ? 1 : 2);
    }

    private static void conditions() {
        condition("1<2", true);
        condition("2<2", false);
        condition("2=2", true);
        condition("3>2", true);
        condition("2>2", false);
        condition("1=2 or 2=2 and 3=3", true);
        condition("2=2 or 2=2 and 3=4", true);
        condition("(2=2 or 2=2) and 3=4", false);
        condition("not 1=2 and 1=1", true);
        condition("not(1=2 or 1=1)", false);
        condition("not not 1=1", true);
        condition("0-1<0", true);
        condition("twice=1", true);
        condition("need=7 and arm=1 and day=0 and fork=0 and won=0 and far=1", true);
    }

    private static void lawsOfMoves() {
        VotedRiver x = Check.river(TWO);
        x.days(1);
        x.town(2, 2, 5);
        String[] law = {"move heads-1;", "move dry;", "move got;", "move need/4;", "move dams;", "move day+2;", "move town;"};
        int[] want = {17, 1, 0, 10, 5, 3, 2};
        for (int i = 0; i < law.length; i++) {
            Check.tell(x, Check.MOVES, law[i]);
            Check.due(law[i], x.of(2, 8), want[i]);
            Check.due(law[i] + " of who is wet", x.of(1, 8), 0);
        }
        Check.tell(x, Check.MOVES, "move 99;");
        Check.due("held to heads", x.of(2, 8), 18);
        Check.tell(x, Check.MOVES, "move 0-1;");
        Check.due("held to 0", x.of(2, 8), 0);
        Check.tell(x, Check.MOVES, "move 9 when wet=1;");
        Check.due("a law that is refused", x.of(2, 8), 0);
        Check.tell(x, Check.MOVES, "move 9 when town=1;");
        Check.due("a tenth, downwards", x.of(2, 8), 1);
        x.town(2, 0, 9);
        Check.due("a tenth of nine", x.of(2, 8), 0);
    }

    private static void moving() {
        VotedRiver x = Check.river("fork to 1 and 2 and 3;town 10 needs 9 to 4;town 20 needs 5 to 4;"
                + "town 40 needs 50 to 4;town 5 needs 3 to 5;sea;");
        Check.tell(x, Check.VOTES, "vote 1 when got>0;vote 0;");
        x.set(0, 40);
        x.set(1, 25);
        x.days(1);
        Check.due("over 11 of the first", x.of(1, 4), 20);
        Check.due("over 15 of the fourth", x.of(4, 4), 16);
        Check.due("who is dry moves to the most over", x.of(4, 0), 9);
        Check.due("and goes away", x.of(3, 0), 36);
        VotedRiver y = Check.river("fork to 1 and 2 and 3;town 10 needs 10 to 4;town 20 needs 10 to 4;"
                + "town 50 needs 50 to 4;sea;");
        Check.tell(y, Check.VOTES, "vote 10;");
        Check.tell(y, Check.MOVES, "move 0;");
        y.set(0, 60);
        Check.due("all are open", y.days(1), 1);
        Check.tell(y, Check.MOVES, "");
        y.days(1);
        Check.due("of several the least", y.of(1, 0), 15);
        Check.due("not another one", y.of(2, 0), 20);
        Check.due("gone", y.of(3, 0), 45);
        VotedRiver first = Check.river("town 10 needs 200 to 1;town 50 needs 10 to 2;sea;");
        first.town(1, 2, 1);
        first.town(1, 3, 10);
        first.days(1);
        Check.due("the first town goes away", first.of(0, 0), 9);
        Check.due("to who is wet by the store, below its need", first.of(1, 0), 51);
        VotedRiver top = Check.river("town 10 needs 90 to 1;town 50 needs 20 to 2;sea;");
        top.days(1);
        Check.due("to the first town", top.of(0, 0), 15);
        Check.due("from the second one", top.of(1, 0), 45);
        VotedRiver z = Check.river("town 10 needs 200 to 1;town 50 needs 100 to 2;sea;");
        z.days(3);
        Check.due("without one that is wet they stay", z.of(0, 0), 10);
        Check.due("they stay", z.of(1, 0), 50);
        VotedRiver many = Check.river("town 1 needs 90 to 1;town 1 needs 20 to 2;sea;");
        many.town(0, 0, 9999);
        many.town(1, 0, 9999);
        many.days(1);
        Check.due("more than are told at once", many.of(0, 0), 10998);
        Check.due("the others", many.of(1, 0), 9000);
        Check.due("all of them", many.look(9), 19998);
    }
}

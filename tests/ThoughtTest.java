/** Promises 18 to 28: what will be, and what could be. */
public final class ThoughtTest {
    private static final int NONE = VotedRiver.NONE;
    private static final String TWO = "fork to 1 and 2;town 30 needs 60 to 3;town 20 needs 40 to 3;sea;";
    private static final int[] WILD = {-1, 4, 16, 31, 32, Integer.MIN_VALUE, Integer.MAX_VALUE};

    public static void main(String[] args) {
        later();
        laterIsAsDays();
        behindTheLastDay();
        ends();
        thirst();
        power();
        fewest();
        least();
        leastByWays();
        best();
        most();
        mud();
        manyForks();
        twice();
        rows();
        nothingStays();
        Check.finish();
    }

    private static void later() {
        VotedRiver x = Check.river(TWO);
        Check.due("later by 0", x.later(0, 1, 0), 30);
        Check.due("later by 1", x.later(1, 1, 0), 32);
        Check.due("later by 100", x.later(100, 2, 5), 99);
        Check.due("later by 101", x.later(101, 1, 0), NONE);
        Check.due("later by -1", x.later(-1, 1, 0), NONE);
        Check.due("what 7", x.later(1, 1, 7), 1);
        Check.due("what 8", x.later(1, 1, 8), NONE);
        Check.due("what -1", x.later(1, 1, -1), NONE);
        Check.due("a fork", x.later(1, 0, 0), NONE);
        Check.due("a sea", x.later(1, 3, 0), NONE);
        for (int wild : WILD) {
            Check.due("later of " + wild, x.later(1, wild, 0), NONE);
        }
        x.buy(0, 1, 11);
        Check.due("what is bought counts", x.later(2, 2, 7), 1);
        x.set(2, 1000);
        Check.due("no drought", x.later(1, 1, 4), 100);
        x.set(2, 0);
        x.set(3, 1000);
        Check.due("no spate", x.later(1, 1, 4), 100);
        Check.due("thirst without draws", x.thirst(1), 2);
        Check.due("the state stays", x.look(5), 0);
    }

    private static void laterIsAsDays() {
        VotedRiver x = Check.river("fork to 1 and 2 and 3;town 30 needs 60 to 4;town 26 needs 40 to 5;"
                + "town 21 needs 33 to 4;fork to 5 and 6;town 9 needs 5 to 6;sea;");
        Check.tell(x, Check.VOTES, "vote heads+dry*3-won when twice=0;vote got+1;");
        x.set(1, 7);
        int[][] seen = new int[25][8];
        for (int n = 0; n <= 24; n++) {
            for (int what = 0; what < 8; what++) {
                seen[n][what] = x.later(n, 3, what);
            }
        }
        for (int n = 0; n <= 24; n++) {
            for (int what = 0; what < 8; what++) {
                Check.due("of(3, " + what + ") on day " + n, x.of(3, what), seen[n][what]);
            }
            x.days(1);
        }
    }

    /** Days end at 9999, thoughts go on behind it: a reading that NOTES.md tells. */
    private static void behindTheLastDay() {
        VotedRiver x = Check.river("fork to 1 and 2;town 30 needs 60 to 3;town 10 needs 40 to 3;sea;");
        Check.tell(x, Check.MOVES, "move 0 when day<9999;move 3;");
        for (int i = 0; i < 99; i++) {
            x.days(100);
        }
        Check.due("to the last day", x.days(99), 0);
        Check.due("no day behind it", x.days(1), NONE);
        Check.due("as it is", x.later(0, 2, 0), 10);
        Check.due("in thought one more day", x.later(1, 2, 0), 7);
        Check.due("and another one", x.later(2, 2, 0), 4);
        Check.due("until nobody is there", x.ends(0), 4);
        Check.due("the day stays", x.look(1), 9999);
    }

    private static void ends() {
        VotedRiver sea = new VotedRiver();
        Check.due("a sea alone", sea.ends(0), 0);
        Check.due("its round", sea.ends(1), 1);
        VotedRiver x = Check.river(TWO);
        Check.tell(x, Check.VOTES, "vote heads when dry>0;vote 0;");
        Check.tell(x, Check.MOVES, "move 0;");
        Check.due("by turns: from the first day on", x.ends(0), 1);
        Check.due("by turns", x.ends(1), 2);
        Check.due("ends(2)", x.ends(2), NONE);
        Check.due("ends(-1)", x.ends(-1), NONE);
        VotedRiver y = Check.river(TWO);
        Check.tell(y, Check.MOVES, "move 0;");
        Check.tell(y, Check.VOTES, "vote 0;");
        Check.due("dry 99", y.ends(0), 99);
        Check.due("then nothing changes", y.ends(1), 1);
        y.days(50);
        Check.due("from now", y.ends(0), 49);
        y.buy(0, 0, 1);
        Check.due("what is bought is told of a fork", y.ends(1), 1);
        VotedRiver last = Check.river("town 5 needs 101 to 1;sea;");
        last.town(0, 2, 3);
        last.town(0, 3, 100);
        Check.due("the 200th day is as the one before", last.ends(0), 199);
        Check.due("a round of one", last.ends(1), 1);
        last.town(0, 3, 101);
        Check.due("the 201st is too late", last.ends(0), NONE);
        VotedRiver z = Check.river("fork to 1 and 2;town 999 needs 60 to 3;town 999 needs 999 to 3;sea;");
        Check.tell(z, Check.MOVES, "move 1;");
        Check.due("not by then", z.ends(0), NONE);
        Check.due("no round by then", z.ends(1), NONE);
        z.town(2, 0, 100);
        Check.due("by then", z.ends(0) > 99, true);
        z.town(2, 0, 198);
        Check.due("when all have gone and defeats are ten", z.ends(1) >= 1, true);
    }

    private static void thirst() {
        VotedRiver x = Check.river(TWO);
        Check.due("never", x.thirst(1), NONE);
        Check.due("at once", x.thirst(2), 1);
        Check.tell(x, Check.VOTES, "vote heads when dry>0;vote 0;");
        Check.due("when the other one has it", x.thirst(1), 2);
        Check.due("a fork", x.thirst(0), NONE);
        Check.due("a sea", x.thirst(3), NONE);
        for (int wild : WILD) {
            Check.due("thirst(" + wild + ")", x.thirst(wild), NONE);
        }
        VotedRiver y = Check.river("town 5 needs 101 to 1;sea;");
        y.town(0, 2, 9);
        y.town(0, 3, 99);
        Check.due("behind 100 days", y.thirst(0), 100);
        y.town(0, 3, 100);
        Check.due("behind more", y.thirst(0), NONE);
    }

    private static void power() {
        VotedRiver x = Check.river("fork to 1 and 2;town 50 needs 1 to 3;town 49 needs 1 to 3;town 1 needs 1 to 4;sea;");
        Check.due("power of 50", x.power(0, 1), 3);
        Check.due("power of 49", x.power(0, 2), 1);
        Check.due("power of 1", x.power(0, 3), 1);
        x.town(3, 0, 0);
        Check.due("without the third", x.power(0, 1), 2);
        Check.due("without heads", x.power(0, 3), NONE);
        x.town(1, 0, 49);
        Check.due("half is not more than half", x.power(0, 1), 1);
        Check.due("a fork is no town", x.power(0, 0), NONE);
        Check.due("a town is no fork", x.power(1, 2), NONE);
        VotedRiver y = Check.river("town 4 needs 1 to 1;fork to 2 and 3;town 5 needs 1 to 3;sea;");
        Check.due("not behind it", y.power(1, 0), NONE);
        Check.due("alone", y.power(1, 2), 1);
        for (int wild : WILD) {
            Check.due("power(" + wild + ", 1)", x.power(wild, 1), NONE);
            Check.due("power(0, " + wild + ")", x.power(0, wild), NONE);
        }
        StringBuilder many = new StringBuilder("fork to 1 and 1;");
        for (int i = 1; i < 15; i++) {
            many.append("town 1 needs 1 to ").append(i + 1).append(";");
        }
        VotedRiver z = Check.river(many + "sea;");
        Check.due("seven of thirteen", z.power(0, 7), 1716);
    }

    private static void fewest() {
        VotedRiver x = Check.river("fork to 1 and 4;town 10 needs 1 to 2;town 20 needs 1 to 3;town 5 needs 1 to 5;"
                + "town 24 needs 1 to 5;sea;");
        Check.due("two of three", x.fewest(0, 0), 2);
        x.town(4, 0, 30);
        Check.due("all of them", x.fewest(0, 0), 3);
        x.town(4, 0, 35);
        Check.due("as many are not more", x.fewest(0, 0), NONE);
        Check.due("as many are not more there", x.fewest(0, 1), NONE);
        x.town(4, 0, 36);
        Check.due("one of one", x.fewest(0, 1), 1);
        VotedRiver y = Check.river("fork to 1 and 2;town 1 needs 1 to 2;sea;");
        Check.due("one head against none", y.fewest(0, 0), 1);
        Check.due("none against one head", y.fewest(0, 1), NONE);
        x.buy(0, 0, 500);
        Check.due("bought is not asked", x.fewest(0, 1), 1);
        Check.due("no such arm", x.fewest(0, 2), NONE);
        Check.due("a town", x.fewest(1, 0), NONE);
        for (int wild : WILD) {
            Check.due("fewest(" + wild + ", 0)", x.fewest(wild, 0), NONE);
            Check.due("fewest(0, " + wild + ")", x.fewest(0, wild), NONE);
        }
        Check.tell(x, Check.VOTES, "vote 0;");
        Check.due("nobody votes", x.fewest(0, 1), NONE);
    }

    private static void least() {
        VotedRiver x = Check.river(TWO);
        Check.due("one more than the other one", x.least(2, 0), 11);
        Check.due("at the fork", x.least(2, 10), 11);
        Check.due("nothing", x.least(1, 0), 0);
        x.buy(0, 1, 4);
        Check.due("what is bought counts", x.least(2, 0), 7);
        x.buy(0, 1, 10);
        Check.due("alike is not alone", x.least(1, 0), 1);
        x.set(0, 39);
        Check.due("not wet by so much", x.least(2, 0), NONE);
        Check.due("not at the fork then", x.least(2, 10), NONE);
        x.town(2, 2, 1);
        x.town(2, 3, 1);
        Check.due("the store as it is", x.least(2, 0), 1);
        Check.tell(x, Check.VOTES, "vote 0;");
        x.buy(0, 1, 0);
        x.set(0, 99);
        Check.due("nobody votes: open stays", x.least(1, 0), 0);
        Check.due("nobody votes: one opens another arm", x.least(2, 0), 1);
        for (int what : new int[] {-1, 1, 9, 26, Integer.MIN_VALUE, Integer.MIN_VALUE + 9, Integer.MAX_VALUE}) {
            Check.due("least(2, " + what + ")", x.least(2, what), NONE);
        }
        Check.due("a fork", x.least(0, 0), NONE);
        Check.due("a sea", x.least(3, 0), NONE);
        for (int wild : WILD) {
            Check.due("least(" + wild + ", 0)", x.least(wild, 0), NONE);
        }
        VotedRiver first = Check.river("town 5 needs 100 to 1;fork to 2 and 2;town 5 needs 1 to 3;sea;");
        Check.due("a way without forks", first.least(0, 0), 0);
        Check.due("nothing goes on", first.least(2, 0), NONE);
        Check.due("not of the way", first.least(0, 11), 0);
        leastAtNoFork();
    }

    /** 10 + f asks a fork alone: of any other node it is another what, though there is a way. */
    private static void leastAtNoFork() {
        VotedRiver x = Check.river(TWO);
        Check.due("there is a way", x.least(2, 0), 11);
        Check.due("its fork", x.least(2, 10), 11);
        Check.due("a town", x.least(2, 11), NONE);
        Check.due("the town that is asked", x.least(2, 12), NONE);
        Check.due("a sea", x.least(2, 13), NONE);
        for (int node = 4; node < 16; node++) {
            Check.due("node " + node + " is not there", x.least(2, 10 + node), NONE);
        }
        Check.due("a fork where none need be bought", x.least(1, 10), 0);
        VotedRiver y = Check.river("town 5 needs 100 to 1;fork to 2 and 2;fork to 3 and 3;sea;");
        Check.due("a town on the way without forks", y.least(0, 10), NONE);
        Check.due("a fork behind the town", y.least(0, 11), 0);
        Check.due("another fork behind the town", y.least(0, 12), 0);
        y.set(0, 99);
        Check.due("a fork, but no way", y.least(0, 11), NONE);
    }

    private static void leastByWays() {
        String delta = "fork to 1 and 2;fork to 3 and 4;fork to 3 and 4;town 10 needs 80 to 5;town 25 needs 90 to 5;sea;";
        VotedRiver x = Check.river(delta);
        Check.tell(x, Check.VOTES, "vote heads when fork>0;vote arm*2;");
        Check.due("the cheapest way", x.least(3, 0), 16);
        Check.due("by the arm that leads already", x.least(3, 10), 0);
        Check.due("no votes at the first one", x.least(3, 11), 0);
        Check.due("votes at the second one", x.least(3, 12), 16);
        Check.tell(x, Check.VOTES, "vote heads when fork>0;vote 1;");
        Check.due("of several ways the first", x.least(3, 10), 1);
        Check.due("it goes by the first fork", x.least(3, 11), 16);
        Check.due("not by the other one", x.least(3, 12), 0);
        x.buy(2, 0, 3);
        Check.due("now the other way", x.least(3, 0), 14);
        Check.due("now there", x.least(3, 12), 13);
        x.set(1, 25);
        x.town(3, 1, 75);
        Check.due("two trickles: not wet by one way", x.least(3, 0), NONE);
        x.town(3, 1, 56);
        Check.due("wet by the way", x.least(3, 0), 14);
        VotedRiver y = Check.river("fork to 1 and 1 and 2;town 10 needs 50 to 3;town 90 needs 5 to 3;sea;");
        y.buy(0, 1, 40);
        Check.due("of two arms to one node the cheaper one", y.least(1, 0), 41);
        y.buy(0, 0, 40);
        y.buy(0, 1, 40);
        Check.due("of arms alike", y.least(1, 10), 41);
    }

    private static void best() {
        VotedRiver x = Check.river("fork to 4 and 2 and 3;town 30 needs 60 to 4;town 20 needs 40 to 4;"
                + "town 30 needs 90 to 4;sea;");
        Check.due("the fork", x.best(0), 0);
        Check.due("the arm", x.best(1), 0);
        Check.due("the node", x.best(2), 1);
        Check.due("the heads", x.best(3), 30);
        x.town(3, 0, 31);
        Check.due("the most heads", x.best(2), 3);
        Check.due("how many", x.best(3), 31);
        x.dig(0, 0, 3);
        Check.due("none is better", x.best(0), NONE);
        Check.due("none has heads", x.best(3), NONE);
        x.town(3, 1, 101);
        Check.due("it is not wet", x.best(2), 1);
        x.town(3, 2, 1);
        x.town(3, 3, 1);
        Check.due("the store as it is", x.best(0), NONE);
        x.town(3, 0, 0);
        Check.due("best(4)", x.best(4), NONE);
        Check.due("best(-1)", x.best(-1), NONE);
        Check.due("another arm's trickle is not needed", x.best(1), 0);
        Check.due("the node stays", x.node(0, 10), 3);
        VotedRiver top = Check.river("town 40 needs 50 to 1;fork to 3 and 3;town 7 needs 50 to 3;sea;");
        Check.due("the first town's heads too", top.best(3), 47);
        VotedRiver y = Check.river("fork to 1 and 1;fork to 3 and 3;town 7 needs 50 to 3;sea;");
        Check.due("of several the first fork", y.best(0), 0);
        Check.due("its node", y.best(2), 2);
    }

    private static void most() {
        VotedRiver x = Check.river("fork to 1 and 2;town 30 needs 60 to 2;town 20 needs 70 to 3;sea;");
        Check.due("the first", x.most(2), 60);
        Check.due("the second", x.most(4), 70);
        Check.due("both", x.most(6), 100);
        Check.due("none", x.most(0), 0);
        Check.due("the first town's needs too", Check.river("town 9 needs 33 to 1;sea;").most(1), 33);
        x.set(1, 30);
        Check.due("with a trickle", x.most(6), 100);
        Check.due("the first with a trickle", x.most(2), 60);
        x.town(2, 2, 9);
        x.town(2, 3, 400);
        x.set(0, 10);
        Check.due("the store is not asked", x.most(4), 7);
        Check.due("a fork", x.most(1), NONE);
        Check.due("a sea", x.most(8), NONE);
        Check.due("not there", x.most(16), NONE);
        Check.due("far from there", x.most(1 << 20), NONE);
        Check.due("below 0", x.most(Integer.MIN_VALUE), NONE);
        Check.due("all", x.most(-1), NONE);
    }

    private static void mud() {
        VotedRiver x = Check.river("fork to 1 and 2;fork to 3 and 4 and 4;fork to 4 and 5;town 9 needs 100 to 5;"
                + "town 9 needs 50 to 5;sea;");
        Check.due("the first town alone", x.mud(8, 0), 2);
        Check.due("by the first arm", x.mud(8, 10), 0);
        Check.due("of the second fork", x.mud(8, 11), 0);
        Check.due("of the third fork", x.mud(8, 12), 0);
        Check.due("the second town alone", x.mud(16, 0), 7);
        Check.due("its first way, first fork", x.mud(16, 10), 0);
        Check.due("its first way, second fork", x.mud(16, 11), 1);
        Check.due("its first way, third fork", x.mud(16, 12), 0);
        Check.due("none", x.mud(0, 0), 3);
        Check.due("none: first fork", x.mud(0, 10), 1);
        Check.due("none: third fork", x.mud(0, 12), 1);
        Check.due("both", x.mud(24, 0), 0);
        Check.due("both: no first", x.mud(24, 10), NONE);
        Check.due("a town has no arm", x.mud(8, 13), NONE);
        x.town(4, 2, 1);
        x.town(4, 3, 50);
        Check.due("the store as it is", x.mud(24, 0), 2);
        for (int what : new int[] {-1, 1, 9, 26, Integer.MIN_VALUE, Integer.MAX_VALUE}) {
            Check.due("mud(8, " + what + ")", x.mud(8, what), NONE);
        }
        for (int set : new int[] {1, 32, 64, -1, Integer.MIN_VALUE}) {
            Check.due("mud(" + set + ", 0)", x.mud(set, 0), NONE);
        }
        VotedRiver sea = new VotedRiver();
        Check.due("one way without forks", sea.mud(0, 0), 1);
        Check.due("no arm without forks", sea.mud(0, 10), NONE);
    }

    /** A chain of forks, each with three arms to the next node; then a town and a sea. */
    private static VotedRiver chain(int forks) {
        StringBuilder delta = new StringBuilder();
        for (int i = 1; i <= forks; i++) {
            delta.append("fork to ").append(i).append(" and ").append(i).append(" and ").append(i).append(";");
        }
        return Check.river(delta + "town 5 needs 7 to " + (forks + 1) + ";sea;");
    }

    private static void manyForks() {
        VotedRiver x = chain(7);
        Check.due("seven forks", x.most(128), 7);
        Check.due("ways of seven forks", x.mud(128, 0), 2187);
        Check.due("the first way", x.mud(128, 16), 0);
        VotedRiver y = chain(8);
        Check.due("eight forks", y.most(256), NONE);
        Check.due("mud of eight forks", y.mud(256, 0), NONE);
        Check.due("no towns, eight forks", y.most(0), NONE);
        VotedRiver z = chain(13);
        z.buy(0, 1, 3);
        z.buy(5, 2, 3);
        Check.due("of millions of ways: each fork but two needs one more", z.least(13, 0), 11);
        Check.due("not where one arm leads", z.least(13, 15), 0);
        Check.due("where all are alike", z.least(13, 16), 1);
        z.buy(5, 2, 0);
        Check.due("each fork but one", z.least(13, 0), 12);
    }

    private static void twice() {
        VotedRiver x = Check.river("fork to 1 and 3;fork to 2 and 4;town 5 needs 7 to 4;town 5 needs 7 to 4;"
                + "town 0 needs 7 to 5;sea;");
        Check.due("at the first fork", x.twice(0), 16);
        Check.due("at the second fork", x.twice(1), 16);
        x.dig(0, 1, 2);
        Check.due("dug anew", x.twice(0), 20);
        x.dig(0, 1, 5);
        Check.due("none", x.twice(0), 0);
        Check.due("a town", x.twice(2), NONE);
        Check.due("a sea", x.twice(5), NONE);
        for (int wild : new int[] {-1, 6, 16, Integer.MIN_VALUE, Integer.MAX_VALUE}) {
            Check.due("twice(" + wild + ")", x.twice(wild), NONE);
        }
    }

    private static void rows() {
        VotedRiver x = new VotedRiver();
        int[] want = {1, 0, 1, 2, 1, 0, 1};
        for (int day = 0; day < want.length; day++) {
            Check.due("rows(2, 4, 1, " + day + ")", x.rows(2, 4, 1, day), want[day]);
        }
        int[] count = new int[3];
        for (int day = 0; day < 99; day++) {
            int arm = x.rows(50, 30, 19, day);
            count[arm < 0 || arm > 2 ? 0 : arm]++;
        }
        Check.due("shared out to 0", count[0], 50);
        Check.due("shared out to 1", count[1], 30);
        Check.due("shared out to 2", count[2], 19);
        Check.due("behind the last day", x.rows(50, 30, 19, 99), NONE);
        Check.due("day -1", x.rows(50, 30, 19, -1), NONE);
        Check.due("100 days", x.rows(50, 30, 20, 0), NONE);
        Check.due("no days", x.rows(0, 0, 0, 0), NONE);
        Check.due("one day", x.rows(0, 1, 0, 0), 1);
        Check.due("the first below 0", x.rows(-1, 2, 3, 0), NONE);
        Check.due("the second below 0", x.rows(2, -1, 3, 0), NONE);
        Check.due("the third below 0", x.rows(2, 3, -1, 0), NONE);
        Check.due("one above 99, one below 0", x.rows(100, -50, 3, 0), NONE);
        Check.due("above 99", x.rows(0, 100, 0, 0), NONE);
        Check.due("wrapping", x.rows(Integer.MAX_VALUE, Integer.MAX_VALUE, 3, 0), NONE);
        Check.due("wrapping below", x.rows(Integer.MIN_VALUE, Integer.MIN_VALUE, 3, 0), NONE);
        Check.due("99 of one", x.rows(0, 0, 99, 98), 2);
    }

    private static void nothingStays() {
        VotedRiver x = Check.river("fork to 1 and 2 and 3;town 30 needs 60 to 4;town 20 needs 40 to 4;"
                + "town 10 needs 90 to 4;sea;");
        x.set(2, 500);
        x.days(3);
        x.state(9);
        x.days(2);
        x.later(50, 1, 0);
        x.ends(0);
        x.thirst(1);
        x.power(0, 1);
        x.fewest(0, 0);
        x.least(2, 0);
        x.best(0);
        x.most(6);
        x.mud(6, 0);
        Check.due("the day", x.look(1), 5);
        Check.due("lines", x.look(2), 5);
        Check.due("what can be undone", x.look(8), 2);
        Check.due("drought", x.look(12), 500);
        Check.due("the arm", x.node(0, 10), 1);
        int state = 9;
        for (int i = 0; i < 2; i++) {
            state = state * 1664525 + 1013904223;
        }
        Check.due("the state", x.look(5), state);
    }
}

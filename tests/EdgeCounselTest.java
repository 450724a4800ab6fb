/** Term 4 (in thought) and promises 21 to 28: power, bribes, digs, ways and rows at their edges. */
public final class EdgeCounselTest {
    private static final int NONE = Check.NONE;
    private static final String PAIR = "fork to 1 and 2;town 30 needs 60 to 3;town 20 needs 40 to 3;sea;";
    private static final int[] NO_FORK = {-1, 1, 3, 4, 15, 16, Check.LOWEST, Check.HIGHEST};
    private static final int[] NO_TOWN = {-1, 0, 3, 4, 15, 16, Check.LOWEST, Check.HIGHEST};

    public static void main(String[] args) {
        powerOfHalf();
        powerOfAll();
        powerWithHeadsAlone();
        powerOfMany();
        powerThatCantBe();
        fewestIsMore();
        fewestOfMany();
        fewestWithoutVotes();
        fewestThatCantBe();
        leastToBeAlone();
        leastWhereNobodyVotes();
        leastToBeWet();
        leastOfTheFirstTown();
        leastAtOtherForks();
        leastWithDamsAsNow();
        leastOfSeveralWays();
        leastWithoutAWay();
        leastOfAnotherWhat();
        leastThatCantBe();
        bestIsMore();
        bestOfSeveral();
        bestWithTrickles();
        bestThatThereIsNot();
        bestOfAnotherWhat();
        mostIsNeedAtMost();
        mostOfASet();
        mostOfSevenForks();
        mudOfJustASet();
        mudOfSevenForks();
        mudOfAnotherWhat();
        mudThatCantBe();
        twiceAsASet();
        twiceOfNoFork();
        rowsOfDays();
        rowsThatCantBe();
        Check.finish();
    }

    private static VotedRiver towns(int... heads) {
        StringBuilder delta = new StringBuilder("fork to 1 and 1;");
        for (int i = 0; i < heads.length; i++) {
            delta.append("town ").append(heads[i]).append(" needs 1 to ").append(i + 2).append(";");
        }
        return Check.river(delta + "sea;");
    }

    private static void powerOfHalf() {
        Check.holds("Promise 21", "have not more than half of all HEADS there, but have so with it");
        Check.due("alone", towns(1).power(0, 1), 1);
        Check.due("one of two alike", towns(1, 1).power(0, 1), 1);
        Check.due("more than half", towns(2, 1).power(0, 1), 2);
        Check.due("less than half", towns(2, 1).power(0, 2), 0);
        Check.due("one of three alike", towns(1, 1, 1).power(0, 2), 2);
        Check.due("just half", towns(3, 2, 1).power(0, 1), 3);
        Check.due("a third", towns(3, 2, 1).power(0, 2), 1);
        Check.due("a sixth", towns(3, 2, 1).power(0, 3), 1);
    }

    private static void powerOfAll() {
        Check.holds("Promise 21", "of all sets of other TOWNS BEHIND it (BEHIND any ARM)");
        VotedRiver x = Check.river("fork to 1 and 2 and 3;town 3 needs 1 to 4;town 2 needs 1 to 4;town 1 needs 1 to 5;"
                + "town 1 needs 1 to 5;sea;");
        Check.due("behind three arms, one of them behind two", x.power(0, 1), 6);
        x.dig(0, 2, 5);
        Check.due("one is behind none then", x.power(0, 1), 3);
        Check.due("its power", x.power(0, 3), NONE);
    }

    private static void powerWithHeadsAlone() {
        Check.holds("Promise 21", "TOWNS with HEADS alone");
        Check.due("one without heads is no set more", towns(2, 1, 0).power(0, 1), 2);
        Check.due("many without heads", towns(2, 0, 0, 0, 1).power(0, 5), 0);
        Check.due("all the others without heads", towns(5, 0, 0).power(0, 1), 1);
        Check.holds("Promise 21", "NONE if one can't be (.. without HEADS)");
        Check.due("without heads", towns(2, 1, 0).power(0, 3), NONE);
        Check.due("with one head", towns(2, 1, 1).power(0, 3), 1);
    }

    private static void powerOfMany() {
        Check.holds("Promise 21", "of all sets of other TOWNS (all places full)");
        VotedRiver x = towns(1, 1, 1, 1, 1, 1, 1, 1, 1, 1, 1, 1, 1, 1);
        Check.due("the first of fourteen", x.power(0, 1), 1716);
        Check.due("the last of fourteen", x.power(0, 14), 1716);
        for (int town = 1; town < 15; town++) {
            x.town(town, 0, 9999);
        }
        Check.due("with the most heads", x.power(0, 14), 1716);
        x.town(1, 0, 1);
        Check.due("one head of many", x.power(0, 1), 0);
        x.town(1, 0, 0);
        Check.due("the last of thirteen", x.power(0, 14), 924);
    }

    private static void powerThatCantBe() {
        Check.holds("Promise 21", "NONE if one can't be (not BEHIND it, ..)");
        VotedRiver x = Check.river(PAIR);
        for (int fork : NO_FORK) {
            Check.due("power(" + fork + ", 1)", x.power(fork, 1), NONE);
        }
        for (int town : NO_TOWN) {
            Check.due("power(0, " + town + ")", x.power(0, town), NONE);
        }
        VotedRiver y = Check.river("town 9 needs 1 to 1;fork to 2 and 3;town 5 needs 1 to 3;sea;");
        Check.due("above the fork", y.power(1, 0), NONE);
        Check.due("it is of no set", y.power(1, 2), 1);
        y.dig(1, 0, 3);
        Check.due("no longer behind it", y.power(1, 2), NONE);
    }

    private static void fewestIsMore() {
        Check.holds("Promise 22", "the fewest TOWNS, the VOTES of which are together more than each other ARM has in all");
        VotedRiver x = Check.river("fork to 1 and 4;town 10 needs 1 to 2;town 20 needs 1 to 3;town 5 needs 1 to 5;"
                + "town 19 needs 1 to 5;sea;");
        int[][] rows = {{19, 1, NONE}, {20, 2, NONE}, {29, 2, NONE}, {30, 3, NONE}, {34, 3, NONE}, {35, NONE, NONE}, {36, NONE, 1}};
        for (int[] row : rows) {
            x.town(4, 0, row[0]);
            Check.due("against " + row[0], x.fewest(0, 0), row[1]);
            Check.due("the other way at " + row[0], x.fewest(0, 1), row[2]);
        }
        Check.holds("Promise 22", "(BOUGHT not asked)");
        x.buy(0, 0, 999);
        Check.due("bought for the other arm", x.fewest(0, 1), 1);
        Check.due("bought for this arm", x.fewest(0, 0), NONE);
        Check.holds("Promise 22", "more than each other ARM");
        VotedRiver three = Check.river("fork to 1 and 2 and 3;town 9 needs 1 to 4;town 9 needs 1 to 4;town 8 needs 1 to 4;sea;");
        Check.due("as many as another one", three.fewest(0, 0), NONE);
        three.town(1, 0, 10);
        Check.due("more than both", three.fewest(0, 0), 1);
        Check.due("more than one of both", three.fewest(0, 1), NONE);
    }

    private static void fewestOfMany() {
        Check.holds("Promise 22", "the fewest TOWNS (all places full)");
        VotedRiver x = towns(9, 9, 9, 9, 9, 9, 9, 9, 9, 9, 9, 9, 9, 9);
        Check.tell(x, Check.VOTES, "vote 2 when arm=0;vote 1;");
        Check.due("eight of fourteen", x.fewest(0, 0), 8);
        Check.due("all are not enough", x.fewest(0, 1), NONE);
        Check.tell(x, Check.VOTES, "vote 2 when arm=0 and need=2;vote 1;");
        Check.due("as many at both arms", x.fewest(0, 0), NONE);
        x.town(14, 1, 2);
        Check.due("all fourteen", x.fewest(0, 0), 14);
    }

    private static void fewestWithoutVotes() {
        Check.holds("Promise 22", "NONE if all are not enough (nothing there)");
        VotedRiver x = Check.river(PAIR);
        Check.tell(x, Check.VOTES, "vote 0;");
        Check.due("nobody votes", x.fewest(0, 0), NONE);
        Check.tell(x, Check.VOTES, "vote 1 when arm=0;vote 0;");
        Check.due("one vote against none", x.fewest(0, 0), 1);
        Check.due("none against one vote", x.fewest(0, 1), NONE);
        Check.due("no towns", Check.river("fork to 1 and 1;sea;").fewest(0, 0), NONE);
        VotedRiver between = Check.river("fork to 1 and 2;town 9 needs 1 to 4;fork to 3 and 3;town 5 needs 1 to 4;sea;");
        Check.due("the town above a fork votes at the one above it", between.fewest(0, 0), 1);
        Check.due("it votes at no other one", between.fewest(2, 0), NONE);
    }

    private static void fewestThatCantBe() {
        Check.holds("Promise 22", "NONE if .. one can't be");
        VotedRiver x = Check.river(PAIR);
        for (int fork : NO_FORK) {
            Check.due("fewest(" + fork + ", 0)", x.fewest(fork, 0), NONE);
        }
        for (int arm : new int[] {-1, 2, 3, Check.LOWEST, Check.HIGHEST}) {
            Check.due("fewest(0, " + arm + ")", x.fewest(0, arm), NONE);
        }
    }

    private static void leastToBeAlone() {
        Check.holds("Promise 23", "the ARM must be OPEN alone behind an EVENING now: so many VOTES more (what is BOUGHT now counts)");
        VotedRiver x = Check.river(PAIR);
        int[][] rows = {{19, 12, 0}, {20, 11, 0}, {29, 2, 0}, {30, 1, 1}, {31, 0, 2}, {32, 0, 3}};
        for (int[] row : rows) {
            x.town(2, 0, row[0]);
            Check.due("the second with " + row[0], x.least(2, 0), row[1]);
            Check.due("the first against " + row[0], x.least(1, 0), row[2]);
            Check.due("at the fork", x.least(1, 10), row[2]);
        }
        x.town(2, 0, 20);
        x.buy(0, 1, 10);
        Check.due("ten are bought: the second", x.least(2, 0), 1);
        Check.due("ten are bought: the first", x.least(1, 0), 1);
        x.buy(0, 1, 11);
        Check.due("eleven are bought: the second", x.least(2, 0), 0);
        Check.due("eleven are bought: the first", x.least(1, 0), 2);
        x.buy(0, 1, 999);
        Check.due("all that can be is bought: the first", x.least(1, 0), 990);
    }

    private static void leastWhereNobodyVotes() {
        Check.holds("Promise 23", "OPEN alone behind an EVENING now (nobody votes: it stays as it is)");
        VotedRiver x = Check.river(PAIR);
        Check.tell(x, Check.VOTES, "vote 0;");
        Check.due("open alone", x.least(1, 0), 0);
        Check.due("not open", x.least(2, 0), 1);
        x.buy(0, 0, 1);
        x.buy(0, 1, 1);
        x.days(1);
        Check.due("both are open: the first", x.least(1, 0), 1);
        Check.due("both are open: the second", x.least(2, 0), 1);
    }

    private static void leastToBeWet() {
        Check.holds("Promise 23", "then it must be WET by the next DAY's water (STORE as now)");
        VotedRiver x = Check.river(PAIR);
        x.set(0, 40);
        Check.due("just its need", x.least(2, 0), 11);
        x.set(0, 39);
        Check.due("one too few", x.least(2, 0), NONE);
        Check.due("one too few: at the fork", x.least(2, 10), NONE);
        x.town(2, 2, 1);
        x.town(2, 3, 1);
        Check.due("the store has one", x.least(2, 0), 11);
        x.set(0, 0);
        x.town(2, 3, 39);
        Check.due("the store has one too few", x.least(2, 0), NONE);
        x.town(2, 3, 40);
        Check.due("the store has all", x.least(2, 0), 11);
        VotedRiver y = Check.river("fork to 1 and 2;town 30 needs 60 to 3;town 20 needs 33 to 3;sea;");
        y.set(1, 33);
        Check.due("a trickle is not a way: the arm must be open", y.least(2, 0), 11);
    }

    private static void leastOfTheFirstTown() {
        Check.holds("Promise 23", "a way of ARMS from NODE 0 to it (none is needed)");
        VotedRiver x = Check.river("town 5 needs 100 to 1;town 5 needs 1 to 3;fork to 3 and 3;sea;");
        Check.due("node 0 itself", x.least(0, 0), 0);
        Check.due("at a fork that is not of the way", x.least(0, 12), 0);
        Check.due("nothing goes on", x.least(1, 0), NONE);
        x.set(0, 101);
        Check.due("one goes on", x.least(1, 0), 0);
        x.set(0, 99);
        Check.due("not wet", x.least(0, 0), NONE);
    }

    private static void leastAtOtherForks() {
        Check.holds("Promise 23", "at all other FORKS as they would vote");
        VotedRiver x = Check.river("fork to 3 and 1;fork to 3 and 2;town 9 needs 1 to 4;town 5 needs 77 to 4;sea;");
        Check.tell(x, Check.VOTES, "vote heads when fork=1 and need=1;vote 0;");
        x.set(1, 33);
        Check.due("67, and a trickle of what the other fork has", x.least(3, 0), 0);
        x.town(3, 1, 78);
        Check.due("more by the way over the other fork", x.least(3, 0), 11);
        Check.due("at the first fork", x.least(3, 10), 1);
        Check.due("at the other fork", x.least(3, 11), 10);
        x.town(3, 1, 79);
        Check.due("more than comes by each way", x.least(3, 0), NONE);
        x.buy(1, 0, 9);
        x.town(3, 1, 84);
        Check.due("half of what the other fork has, by a tie", x.least(3, 0), 0);
        x.town(3, 1, 85);
        Check.due("more than by a tie", x.least(3, 0), NONE);
        x.buy(1, 0, 0);
        x.town(2, 0, 0);
        x.town(3, 1, 90);
        Check.due("nobody votes at the other fork: it stays as it is", x.least(3, 0), 0);
        x.town(3, 1, 91);
        Check.due("more than it has then", x.least(3, 0), NONE);
        VotedRiver y = Check.river("fork to 1 and 3;fork to 2 and 3;town 9 needs 1 to 4;town 5 needs 77 to 4;sea;");
        Check.tell(y, Check.VOTES, "vote heads when fork=1 and need=1;vote 0;");
        y.set(1, 33);
        Check.due("the way over the other fork comes first, the straight one is cheaper", y.least(3, 0), 1);
        y.town(3, 1, 78);
        Check.due("not by the straight one: the other fork is as it would vote", y.least(3, 0), 10);
    }

    private static void leastWithDamsAsNow() {
        Check.holds("Promise 23", "as they would vote (DEFEATS, DAMS as now)");
        VotedRiver x = Check.river("fork to 1 and 1;town 9 needs 10 to 2;town 9 needs 90 to 3;sea;");
        Check.tell(x, Check.VOTES, "vote 5 when arm=1 and need=10;vote 0;");
        Check.tell(x, Check.MOVES, "move 0;");
        for (int day = 0; day < 9; day++) {
            x.buy(0, 0, 100);
            x.days(1);
        }
        x.buy(0, 0, 100);
        Check.due("nine defeats", x.of(1, 6), 9);
        Check.due("the tenth builds no dam in thought", x.least(2, 0), 0);
        x.days(1);
        Check.due("a dam, built by the tenth", x.of(1, 2), 1);
        Check.due("now it takes what is above the need", x.least(2, 0), NONE);
    }

    private static void leastOfSeveralWays() {
        Check.holds("Promise 23", "the fewest in all; of several ways the first (ARM by ARM)");
        VotedRiver x = Check.river("fork to 1 and 2;fork to 3 and 3;fork to 3 and 3;town 5 needs 50 to 4;sea;");
        Check.tell(x, Check.VOTES, "vote 0;");
        x.buy(0, 0, 1);
        x.buy(0, 1, 1);
        x.days(1);
        Check.due("all alike", x.least(3, 0), 1);
        Check.due("at the first fork", x.least(3, 10), 1);
        VotedRiver y = Check.river("fork to 1 and 3;fork to 3 and 2;town 9 needs 1 to 3;sea;");
        Check.tell(y, Check.VOTES, "vote heads when fork=1;vote 0;");
        Check.due("by two forks for nothing", y.least(2, 0), 0);
        x.buy(1, 0, 1);
        x.buy(1, 1, 1);
        Check.due("the second way is the cheaper one", x.least(3, 0), 1);
        Check.due("not at the fork of the first way", x.least(3, 11), 0);
        x.buy(2, 0, 1);
        x.buy(2, 1, 1);
        Check.due("alike again", x.least(3, 0), 2);
        Check.due("at the fork of the first way", x.least(3, 11), 1);
        Check.due("not at the fork of the second way", x.least(3, 12), 0);
    }

    private static void leastWithoutAWay() {
        Check.holds("Promise 23", "NONE if there is no way");
        VotedRiver x = Check.river("fork to 1 and 3;town 5 needs 1 to 3;town 5 needs 1 to 3;sea;");
        Check.due("a way", x.least(1, 0), 0);
        Check.due("no way", x.least(2, 0), NONE);
        Check.due("no way: at the fork", x.least(2, 10), NONE);
        x.town(2, 2, 1);
        x.town(2, 3, 50);
        Check.due("wet by its store, but no way", x.least(2, 0), NONE);
        VotedRiver sea = Check.river("sea;town 5 needs 1 to 2;sea;");
        Check.due("a sea takes all", sea.least(1, 0), NONE);
    }

    private static void leastOfAnotherWhat() {
        Check.holds("Promise 23", "what 0 how many in all, 10 + f how many at FORK f. NONE if .. another what");
        VotedRiver x = Check.river(PAIR);
        Check.due("what 0", x.least(2, 0), 11);
        Check.due("what 10", x.least(2, 10), 11);
        for (int what : new int[] {-1, 1, 9, 11, 12, 13, 14, 20, 25, 26, Check.LOWEST, Check.LOWEST + 10, Check.HIGHEST}) {
            Check.due("least(2, " + what + ")", x.least(2, what), NONE);
        }
        VotedRiver last = Check.river("town 1 needs 1 to 14;" + "sea;".repeat(13) + "fork to 15 and 15;sea;");
        Check.due("the last node that can be a fork", last.least(0, 24), 0);
        Check.due("the last node", last.least(0, 25), NONE);
        Check.due("behind the last node", last.least(0, 26), NONE);
    }

    private static void leastThatCantBe() {
        Check.holds("Promise 23", "LEAST for a TOWN: NONE if .. one can't be");
        VotedRiver x = Check.river(PAIR);
        for (int node : NO_TOWN) {
            Check.due("least(" + node + ", 0)", x.least(node, 0), NONE);
            Check.due("least(" + node + ", 10)", x.least(node, 10), NONE);
        }
    }

    private static void bestOf(VotedRiver x, int fork, int arm, int node, int heads) {
        int[] want = {fork, arm, node, heads};
        for (int what = 0; what < 4; what++) {
            Check.due("best(" + what + ")", x.best(what), want[what]);
        }
    }

    private static void bestIsMore() {
        Check.holds("Promise 24", "the most HEADS are WET by the next DAY's water, more than without");
        VotedRiver x = Check.river(PAIR);
        bestOf(x, NONE, NONE, NONE, NONE);
        x.town(2, 0, 30);
        bestOf(x, NONE, NONE, NONE, NONE);
        x.town(2, 0, 31);
        bestOf(x, 0, 0, 2, 31);
        x.town(2, 1, 100);
        bestOf(x, 0, 0, 2, 31);
        x.town(2, 1, 101);
        bestOf(x, NONE, NONE, NONE, NONE);
        x.town(2, 2, 1);
        x.town(2, 3, 1);
        bestOf(x, 0, 0, 2, 31);
        x.town(1, 2, 1);
        x.town(1, 3, 50);
        x.town(1, 1, 50);
        bestOf(x, 0, 0, 2, 61);
        VotedRiver dry = Check.river("fork to 2 and 2;town 0 needs 1 to 2;sea;");
        bestOf(dry, NONE, NONE, NONE, NONE);
        dry.town(1, 0, 1);
        bestOf(dry, 0, 0, 1, 1);
    }

    private static void bestOf(int arms, int fork, int arm, int node, int heads) {
        VotedRiver x = Check.river("fork to 3 and 3;town 5 needs 50 to 3;town 5 needs 50 to 3;sea;");
        Check.tell(x, Check.VOTES, "vote 0;");
        x.buy(0, 0, arms & 1);
        x.buy(0, 1, arms >> 1);
        x.days(1);
        bestOf(x, fork, arm, node, heads);
    }

    private static void bestOfSeveral() {
        Check.holds("Promise 24", "(OPEN as now) .. of several the first (FORK, ARM, NODE)");
        bestOf(1, 0, 0, 1, 5);
        bestOf(2, 0, 1, 1, 5);
        bestOf(3, 0, 0, 1, 5);
        VotedRiver y = Check.river("fork to 1 and 1;fork to 3 and 3;town 7 needs 50 to 3;sea;");
        bestOf(y, 0, 0, 2, 7);
        VotedRiver behind = Check.river("fork to 1 and 1;town 5 needs 10 to 2;fork to 4 and 4;town 7 needs 50 to 4;sea;");
        bestOf(behind, 2, 0, 3, 12);
        VotedRiver top = Check.river("town 40 needs 50 to 1;fork to 3 and 3;town 7 needs 50 to 3;sea;");
        bestOf(top, 1, 0, 2, 47);
        VotedRiver last = Check.river("sea;".repeat(13) + "town 5 needs 1 to 14;fork to 15 and 15;sea;");
        bestOf(last, NONE, NONE, NONE, NONE);
    }

    private static void bestWithTrickles() {
        Check.holds("Term 4", "DIG .. by the next DAY's water (TRICKLE, BASE as told)");
        VotedRiver x = Check.river("fork to 1 and 2;town 10 needs 10 to 3;town 20 needs 30 to 3;sea;");
        bestOf(x, 0, 0, 2, 20);
        x.set(1, 30);
        bestOf(x, NONE, NONE, NONE, NONE);
        x.set(1, 29);
        bestOf(x, 0, 0, 2, 20);
        x.set(0, 104);
        bestOf(x, NONE, NONE, NONE, NONE);
    }

    private static void bestThatThereIsNot() {
        Check.holds("Promise 24", "NONE if there is none such");
        bestOf(new VotedRiver(), NONE, NONE, NONE, NONE);
        bestOf(Check.river("fork to 1 and 1;sea;"), NONE, NONE, NONE, NONE);
        bestOf(Check.river("town 5 needs 1 to 1;sea;"), NONE, NONE, NONE, NONE);
    }

    private static void bestOfAnotherWhat() {
        Check.holds("Promise 24", "what 0 .. 3. NONE if .. another what");
        VotedRiver x = Check.river(PAIR);
        x.town(2, 0, 99);
        bestOf(x, 0, 0, 2, 99);
        for (int what : new int[] {-1, 4, 5, Check.LOWEST, Check.HIGHEST}) {
            Check.due("best(" + what + ")", x.best(what), NONE);
        }
    }

    private static void mostIsNeedAtMost() {
        Check.holds("Promise 25", "the most that a set of TOWNS together has of its NEEDS (GOT of each, NEED at most; STORE not asked)");
        VotedRiver x = Check.river(PAIR);
        int[][] rows = {{0, 0, 0}, {1, 1, 1}, {39, 39, 39}, {40, 40, 40}, {41, 41, 40}, {59, 59, 40}, {60, 60, 40}, {61, 60, 40}, {999, 60, 40}};
        for (int[] row : rows) {
            x.set(0, row[0]);
            Check.due("the first of " + row[0], x.most(2), row[1]);
            Check.due("the second of " + row[0], x.most(4), row[2]);
            Check.due("both of " + row[0], x.most(6), Math.max(row[1], row[2]));
        }
        x.set(0, 10);
        x.town(1, 2, 9);
        x.town(1, 3, 450);
        Check.due("a full store does not count", x.most(2), 10);
    }

    private static void mostOfASet() {
        Check.holds("Promise 25", "MOST for a set of TOWNS; NONE if one can't be (a NODE that is no TOWN)");
        VotedRiver x = Check.river(PAIR);
        Check.due("an empty set", x.most(0), 0);
        Check.due("all towns", x.most(6), 60);
        for (int node : new int[] {0, 3, 4, 14, 15, 16, 30, 31}) {
            Check.due("node " + node, x.most(1 << node), NONE);
            Check.due("node " + node + " beside a town", x.most(1 << node | 2), NONE);
        }
        Check.due("all nodes", x.most(-1), NONE);
        Check.due("an empty set of none", new VotedRiver().most(0), 0);
        VotedRiver last = Check.river("fork to 14 and 15;" + "sea;".repeat(13) + "town 5 needs 7 to 15;sea;");
        Check.due("the last node that can be a town", last.most(1 << 14), 7);
        Check.due("the node behind it", last.most(1 << 15), NONE);
    }

    /** Forks one behind another, with three arms each to the next node; then a town and a sea. */
    private static VotedRiver chain(int forks) {
        StringBuilder delta = new StringBuilder();
        for (int i = 1; i <= forks; i++) {
            delta.append("fork to ").append(i).append(" and ").append(i).append(" and ").append(i).append(";");
        }
        return Check.river(delta + "town 5 needs 7 to " + (forks + 1) + ";sea;");
    }

    private static void mostOfSevenForks() {
        Check.holds("Promise 25", "(7 FORKS at most) .. NONE if one can't be (more than 7 FORKS)");
        for (int forks = 0; forks <= 13; forks++) {
            VotedRiver x = chain(forks);
            Check.due("most with " + forks + " forks", x.most(1 << forks), forks <= 7 ? 7 : NONE);
            Check.due("an empty set with " + forks + " forks", x.most(0), forks <= 7 ? 0 : NONE);
        }
    }

    private static void mudOfJustASet() {
        Check.holds("Promise 26", "in how many such ways just the TOWNS of a set would be WET; the first (FORK by FORK)");
        VotedRiver x = Check.river(PAIR);
        // BASE, then for no town, the first, the second, both: how many ways, and the first one's arm.
        int[][] rows = {{39, 2, 0, 0, NONE, 0, NONE, 0, NONE}, {40, 1, 0, 0, NONE, 1, 1, 0, NONE},
            {59, 1, 0, 0, NONE, 1, 1, 0, NONE}, {60, 0, NONE, 1, 0, 1, 1, 0, NONE}};
        for (int[] row : rows) {
            x.set(0, row[0]);
            for (int set = 0; set < 4; set++) {
                Check.due("ways of set " + set + " by " + row[0], x.mud(2 * set, 0), row[1 + 2 * set]);
                Check.due("its first arm by " + row[0], x.mud(2 * set, 10), row[2 + 2 * set]);
            }
        }
        Check.holds("Promise 26", "(STORE as it is)");
        x.set(0, 60);
        x.town(2, 2, 1);
        x.town(2, 3, 39);
        Check.due("the store has one too few", x.mud(6, 0), 0);
        x.town(2, 3, 40);
        Check.due("the store has enough", x.mud(6, 0), 1);
        Check.due("never the first alone", x.mud(2, 0), 0);
        Check.holds("Promise 26", "the first (FORK by FORK)");
        VotedRiver y = Check.river("fork to 1 and 2;fork to 4 and 3;fork to 3 and 4;town 5 needs 100 to 4;sea;");
        Check.due("four ways", y.mud(8, 0), 4);
        Check.due("the first fork", y.mud(8, 10), 0);
        Check.due("the second fork", y.mud(8, 11), 1);
        Check.due("the third fork", y.mud(8, 12), 0);
    }

    private static void mudOfSevenForks() {
        Check.holds("Promise 26", "NONE if one can't be (more than 7 FORKS)");
        int ways = 1;
        for (int forks = 0; forks <= 8; forks++) {
            VotedRiver x = chain(forks);
            Check.due("ways of " + forks + " forks", x.mud(1 << forks, 0), forks <= 7 ? ways : NONE);
            Check.due("no way of " + forks + " forks", x.mud(0, 0), forks <= 7 ? 0 : NONE);
            Check.due("the first way of " + forks + " forks", x.mud(1 << forks, 10), forks > 0 && forks <= 7 ? 0 : NONE);
            ways *= 3;
        }
    }

    private static void mudOfAnotherWhat() {
        Check.holds("Promise 26", "what 0 how many, 10 + f the ARM of FORK f by the first (NONE). NONE if .. another what");
        VotedRiver x = Check.river(PAIR);
        Check.due("the second's arm", x.mud(4, 10), 1);
        Check.due("no way, no arm", x.mud(6, 10), NONE);
        for (int what : new int[] {-1, 1, 9, 11, 12, 13, 14, 25, 26, Check.LOWEST, Check.LOWEST + 10, Check.HIGHEST}) {
            Check.due("mud(4, " + what + ")", x.mud(4, what), NONE);
        }
    }

    private static void mudThatCantBe() {
        Check.holds("Promise 26", "NONE if one can't be (a NODE that is no TOWN)");
        VotedRiver x = Check.river(PAIR);
        for (int node : new int[] {0, 3, 4, 14, 15, 16, 30, 31}) {
            Check.due("mud of node " + node, x.mud(1 << node, 0), NONE);
            Check.due("mud of node " + node + ", its arm", x.mud(1 << node, 10), NONE);
        }
        Check.due("mud of all nodes", x.mud(-1, 0), NONE);
        Check.due("no towns, no forks", new VotedRiver().mud(0, 0), 1);
        Check.due("no forks, no arm", new VotedRiver().mud(0, 10), NONE);
    }

    private static void twiceAsASet() {
        Check.holds("Promise 27", "the set of TOWNS BEHIND more than one ARM");
        VotedRiver x = Check.river("fork to 1 and 2 and 3;town 5 needs 7 to 4;town 0 needs 7 to 4;sea;town 5 needs 7 to 5;sea;");
        Check.due("behind two of three", x.twice(0), 16);
        x.dig(0, 2, 2);
        Check.due("one without heads, too", x.twice(0), 20);
        x.dig(0, 1, 3);
        Check.due("behind two again", x.twice(0), 16);
        x.dig(0, 0, 3);
        Check.due("behind one each", x.twice(0), 0);
        VotedRiver all = towns(1, 1, 1, 1, 1, 1, 1, 1, 1, 1, 1, 1, 1, 1);
        Check.due("all fourteen", all.twice(0), 0x7ffe);
        Check.due("no towns", Check.river("fork to 1 and 1;sea;").twice(0), 0);
        VotedRiver forks = Check.river("fork to 1 and 1;fork to 2 and 3;town 5 needs 7 to 3;sea;");
        Check.due("forks and seas are no towns", forks.twice(0), 4);
        Check.due("behind one arm of the second fork", forks.twice(1), 0);
    }

    private static void twiceOfNoFork() {
        Check.holds("Promise 27", "NONE if there is none such");
        VotedRiver x = Check.river(PAIR);
        for (int fork : NO_FORK) {
            Check.due("twice(" + fork + ")", x.twice(fork), NONE);
        }
        Check.due("twice(0)", x.twice(0), 0);
    }

    private static void rowsOf(int a, int b, int c, int... want) {
        VotedRiver x = new VotedRiver();
        for (int day = 0; day < want.length; day++) {
            Check.due("rows(" + a + ", " + b + ", " + c + ", " + day + ")", x.rows(a, b, c, day), want[day]);
        }
        Check.due("the day before the first", x.rows(a, b, c, -1), NONE);
        Check.due("the day behind the last", x.rows(a, b, c, want.length), NONE);
    }

    private static void rowsOfDays() {
        Check.holds("Promise 28", "the ARM of a day (0 .. together less 1); of several the least");
        rowsOf(1, 0, 0, 0);
        rowsOf(0, 1, 0, 1);
        rowsOf(0, 0, 1, 2);
        rowsOf(1, 1, 1, 0, 1, 2);
        rowsOf(0, 1, 1, 1, 2);
        rowsOf(1, 0, 1, 0, 2);
        rowsOf(2, 1, 1, 0, 1, 2, 0);
        rowsOf(1, 2, 3, 2, 1, 0, 2, 1, 2);
        rowsOf(2, 4, 1, 1, 0, 1, 2, 1, 0, 1);
        VotedRiver x = new VotedRiver();
        Check.due("99 of one: the first day", x.rows(99, 0, 0, 0), 0);
        Check.due("99 of one: the last day", x.rows(99, 0, 0, 98), 0);
        Check.due("99 of three: the first day", x.rows(33, 33, 33, 0), 0);
        Check.due("99 of three: the last day", x.rows(33, 33, 33, 98), 2);
    }

    private static void rowsThatCantBe() {
        Check.holds("Promise 28", "n (1 .. 99) days .. three numbers 0 .. 99; together n; NONE if one can't be");
        VotedRiver x = new VotedRiver();
        Check.due("no days", x.rows(0, 0, 0, 0), NONE);
        Check.due("99 days", x.rows(97, 1, 1, 0), 0);
        Check.due("100 days", x.rows(98, 1, 1, 0), NONE);
        Check.due("100 days of the second", x.rows(1, 98, 1, 0), NONE);
        Check.due("100 days of the third", x.rows(1, 1, 98, 0), NONE);
        Check.due("the first 100", x.rows(100, 0, 0, 0), NONE);
        Check.due("the second 100", x.rows(0, 100, 0, 0), NONE);
        Check.due("the third 100", x.rows(0, 0, 100, 0), NONE);
        Check.due("the first -1", x.rows(-1, 1, 1, 0), NONE);
        Check.due("the second -1", x.rows(1, -1, 1, 0), NONE);
        Check.due("the third -1", x.rows(1, 1, -1, 0), NONE);
        Check.due("100 and -1", x.rows(100, -1, 0, 0), NONE);
        Check.due("day 99 of 99", x.rows(99, 0, 0, 99), NONE);
        Check.due("day -1 of 99", x.rows(99, 0, 0, -1), NONE);
        for (int wild : new int[] {Check.LOWEST, Check.HIGHEST, 1 << 30}) {
            Check.due("rows(" + wild + ", 1, 1, 0)", x.rows(wild, 1, 1, 0), NONE);
            Check.due("rows(1, " + wild + ", 1, 0)", x.rows(1, wild, 1, 0), NONE);
            Check.due("rows(1, 1, " + wild + ", 0)", x.rows(1, 1, wild, 0), NONE);
            Check.due("rows(1, 1, 1, " + wild + ")", x.rows(1, 1, 1, wild), NONE);
            Check.due("rows of four times 1 << 30", x.rows(wild, wild, wild, 0), NONE);
        }
    }
}

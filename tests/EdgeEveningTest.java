/** Term 3 (the evening, the moves) and promises 11, 13, 14, 16, 17 at their edges. */
public final class EdgeEveningTest {
    private static final int NONE = Check.NONE;
    private static final String PAIR = "fork to 1 and 2;town 30 needs 60 to 3;town 20 needs 40 to 3;sea;";
    // Nobody lives there: what is bought alone decides.
    private static final String EMPTY = "fork to 1 and 1 and 1;sea;";

    public static void main(String[] args) {
        nobodyVotes();
        oneVote();
        wonInARow();
        wonByAnother();
        floods();
        floodThatStays();
        boughtIsGone();
        forksOneBehindAnother();
        tenthDefeat();
        nineDams();
        noDefeats();
        defeatsOfSeveralArms();
        defeatsInAFlood();
        defeatsByWhatWasVoted();
        defeatsAtTwoForks();
        bookLines();
        bookIsFull();
        bookIsFullWithinADay();
        whoGoesWhere();
        movesByTheEvening();
        nobodyIsWet();
        mostOver();
        overWithoutStore();
        movesOfAllHeads();
        daysThatCanBe();
        daysToTheLast();
        daysRefused();
        howManyFloods();
        forkWhats();
        ofWhats();
        cameFromWhere();
        bookOfNoLine();
        Check.finish();
    }

    private static void nobodyVotes() {
        Check.holds("Term 3", "Nobody votes: it stays as it is");
        VotedRiver x = Check.river(EMPTY);
        x.days(2);
        Check.due("open at first", x.fork(0, 0), 1);
        Check.due("won at first", x.fork(0, 1), 0);
        x.buy(0, 2, 1);
        x.days(1);
        Check.due("open by one vote", x.fork(0, 0), 4);
        Check.due("won by one vote", x.fork(0, 1), 1);
        x.days(2);
        Check.due("open stays", x.fork(0, 0), 4);
        Check.due("won stays", x.fork(0, 1), 1);
        Check.due("the most votes", x.book(4, 3), 0);
        VotedRiver y = Check.river(PAIR);
        Check.tell(y, Check.VOTES, "vote 0;");
        y.days(3);
        Check.due("all vote 0: open", y.fork(0, 0), 1);
        Check.due("all vote 0: won", y.fork(0, 1), 0);
        Check.due("all vote 0: no defeats", y.of(2, 6), 0);
    }

    private static void oneVote() {
        Check.holds("Term 3", "if some are above 0: those with the most are OPEN");
        VotedRiver x = Check.river(PAIR);
        Check.tell(x, Check.VOTES, "vote 1 when arm=1;vote 0;");
        x.days(1);
        Check.due("one vote against none", x.fork(0, 0), 2);
        x.buy(0, 0, 2);
        x.days(1);
        Check.due("two that are bought against one", x.fork(0, 0), 1);
        x.buy(0, 0, 1);
        x.days(1);
        Check.due("one against one", x.fork(0, 0), 3);
    }

    private static void wonInARow() {
        Check.holds("Term 3", "one alone that was so already: WON one more (99 at most)");
        VotedRiver x = Check.river(PAIR);
        Check.tell(x, Check.MOVES, "move 0;");
        x.days(1);
        Check.due("the first evening", x.fork(0, 1), 1);
        x.days(97);
        Check.due("98 evenings", x.fork(0, 1), 98);
        x.days(1);
        Check.due("99 evenings", x.fork(0, 1), 99);
        x.days(1);
        Check.due("100 evenings", x.fork(0, 1), 99);
        x.buy(0, 1, 999);
        x.days(1);
        Check.due("another one", x.fork(0, 1), 1);
    }

    private static void wonByAnother() {
        Check.holds("Term 3", "another one alone: 1");
        VotedRiver x = Check.river(EMPTY);
        x.buy(0, 1, 1);
        x.days(1);
        Check.due("not the one of the first day", x.fork(0, 1), 1);
        x.buy(0, 1, 1);
        x.days(1);
        Check.due("the same", x.fork(0, 1), 2);
        x.buy(0, 0, 1);
        x.buy(0, 1, 1);
        x.days(1);
        Check.due("several", x.fork(0, 1), 0);
        x.buy(0, 1, 1);
        x.days(1);
        Check.due("one of several, now alone", x.fork(0, 1), 1);
    }

    private static void floods() {
        Check.holds("Term 3", "several (a FLOOD, counted): 0");
        int[][] rows = {{5, 5, 4, 3}, {5, 4, 5, 5}, {4, 5, 5, 6}, {5, 5, 5, 7}, {1, 1, 1, 7}, {999, 0, 999, 5}};
        for (int[] row : rows) {
            VotedRiver x = Check.river(EMPTY);
            for (int arm = 0; arm < 3; arm++) {
                x.buy(0, arm, row[arm]);
            }
            Check.due("a flood", x.days(1), 1);
            Check.due("open", x.fork(0, 0), row[3]);
            Check.due("won", x.fork(0, 1), 0);
            Check.due("floods in all", x.look(4), 1);
        }
        VotedRiver one = Check.river(EMPTY);
        one.buy(0, 0, 5);
        one.buy(0, 1, 4);
        one.buy(0, 2, 4);
        Check.due("no flood where two have less", one.days(1), 0);
        Check.due("open", one.fork(0, 0), 1);
    }

    private static void floodThatStays() {
        Check.holds("Term 3", "several (a FLOOD, counted); Nobody votes: it stays as it is");
        VotedRiver x = Check.river(EMPTY);
        x.buy(0, 0, 1);
        x.buy(0, 1, 1);
        Check.due("a flood", x.days(1), 1);
        Check.due("nobody votes: no flood is counted", x.days(3), 0);
        Check.due("both stay open", x.fork(0, 0), 3);
        Check.due("won", x.fork(0, 1), 0);
        Check.due("floods in all", x.look(4), 1);
        x.buy(0, 0, 2);
        x.buy(0, 1, 2);
        Check.due("the same two by votes: a flood", x.days(1), 1);
        Check.due("floods in all then", x.look(4), 2);
    }

    private static void boughtIsGone() {
        Check.holds("Term 3", "BOUGHT is 0");
        VotedRiver x = Check.river(EMPTY);
        for (int arm = 0; arm < 3; arm++) {
            x.buy(0, arm, 999);
        }
        x.days(1);
        for (int arm = 0; arm < 3; arm++) {
            Check.due("bought for arm " + arm, x.fork(0, 20 + arm), 0);
        }
        VotedRiver two = Check.river("fork to 1 and 1;fork to 2 and 2;sea;");
        two.buy(0, 1, 5);
        two.buy(1, 1, 6);
        two.days(1);
        Check.due("open at the first fork", two.fork(0, 0), 2);
        Check.due("open at the second fork, by what was bought there", two.fork(1, 0), 2);
        Check.due("bought at the first fork", two.fork(0, 21), 0);
        Check.due("bought at the second fork", two.fork(1, 21), 0);
    }

    private static void forksOneBehindAnother() {
        Check.holds("Term 3", "the EVENING, FORK by FORK");
        VotedRiver x = Check.river("fork to 1 and 2;fork to 2 and 3;town 9 needs 1 to 3;sea;");
        x.days(1);
        for (int fork = 0; fork < 2; fork++) {
            Check.due("the line's day", x.book(fork, 0), 0);
            Check.due("the line's fork", x.book(fork, 1), fork);
        }
        Check.due("open at the first", x.book(0, 2), 3);
        Check.due("open at the second", x.book(1, 2), 1);
        Check.holds("Term 3", "(by all that is as it is then): the day's water first, moves later");
        VotedRiver y = Check.river(PAIR);
        Check.tell(y, Check.VOTES, "vote got/10 when dry=0;vote dry;");
        y.days(1);
        Check.due("by what the town got this day", y.book(0, 3), 10);
        Check.due("moves come behind", y.of(1, 0), 32);
        VotedRiver z = Check.river(PAIR);
        z.days(1);
        Check.due("by heads before the moves", z.book(0, 3), 30);
    }

    private static void tenthDefeat() {
        Check.holds("Term 3", "DEFEATS one more; the tenth: DEFEATS 0, DAMS one more");
        VotedRiver x = Check.river(PAIR);
        Check.tell(x, Check.MOVES, "move 0;");
        for (int day = 1; day <= 20; day++) {
            x.days(1);
            Check.due("defeats behind day " + day, x.of(2, 6), day % 10);
            Check.due("dams behind day " + day, x.of(2, 2), day / 10);
            Check.due("who wins has none", x.of(1, 6), 0);
        }
    }

    private static void nineDams() {
        Check.holds("Term 3", "DAMS one more (9 at most)");
        VotedRiver x = Check.river(PAIR);
        Check.tell(x, Check.MOVES, "move 0;");
        x.town(2, 2, 8);
        x.days(9);
        Check.due("eight dams, nine defeats", x.of(2, 2) * 10 + x.of(2, 6), 89);
        x.days(1);
        Check.due("nine dams", x.of(2, 2) * 10 + x.of(2, 6), 90);
        x.days(9);
        Check.due("nine dams, nine defeats", x.of(2, 2) * 10 + x.of(2, 6), 99);
        x.days(1);
        Check.due("nine dams at most, and no defeats", x.of(2, 2) * 10 + x.of(2, 6), 90);
    }

    private static void noDefeats() {
        Check.holds("Term 3", "Each TOWN that voted above 0 for some ARMS of it, none of which is OPEN then");
        VotedRiver x = Check.river(PAIR);
        x.town(2, 0, 0);
        x.days(1);
        Check.due("without heads", x.of(2, 6), 0);
        VotedRiver tie = Check.river(PAIR);
        tie.town(2, 0, 30);
        tie.days(1);
        Check.due("a flood: the first", tie.of(1, 6), 0);
        Check.due("a flood: the second", tie.of(2, 6), 0);
        VotedRiver one = Check.river(PAIR);
        one.town(2, 0, 1);
        one.days(1);
        Check.due("one vote for what is not open", one.of(2, 6), 1);
        VotedRiver sold = Check.river(PAIR);
        Check.tell(sold, Check.VOTES, "vote 0;");
        sold.buy(0, 1, 5);
        sold.days(1);
        Check.due("who did not vote is not defeated by votes that are bought", sold.of(1, 6), 0);
        Check.tell(sold, Check.VOTES, "vote heads;");
        sold.buy(0, 1, 99);
        sold.days(1);
        Check.due("who voted is", sold.of(1, 6), 1);
    }

    private static void defeatsOfSeveralArms() {
        Check.holds("Term 3", "voted above 0 for some ARMS of it, none of which is OPEN then: DEFEATS one more");
        VotedRiver x = Check.river("fork to 1 and 1 and 2;town 5 needs 1 to 3;town 9 needs 1 to 3;sea;");
        Check.tell(x, Check.MOVES, "move 0;");
        x.days(1);
        Check.due("two arms, neither open: one defeat", x.of(1, 6), 1);
        x.buy(0, 1, 5);
        x.days(1);
        Check.due("two arms, the second one open", x.of(1, 6), 1);
        Check.due("the other town then", x.of(2, 6), 1);
        Check.tell(x, Check.VOTES, "vote heads when arm<1;vote 0;");
        x.buy(0, 1, 50);
        x.days(1);
        Check.due("open is one that it is behind, but had no votes of it", x.of(1, 6), 2);
        Check.due("no votes, no defeat", x.of(2, 6), 1);
    }

    private static void defeatsInAFlood() {
        Check.holds("Term 3", "Each TOWN that voted above 0 for some ARMS of it, none of which is OPEN then (a FLOOD of others)");
        VotedRiver x = Check.river("fork to 1 and 2 and 3;town 5 needs 10 to 4;town 5 needs 10 to 4;town 3 needs 10 to 4;sea;");
        for (int day = 1; day <= 3; day++) {
            x.days(1);
            Check.due("open", x.fork(0, 0), 3);
            Check.due("the first of the flood", x.of(1, 6), 0);
            Check.due("the second of the flood", x.of(2, 6), 0);
            Check.due("the town without water", x.of(3, 6), day);
        }
    }

    private static void defeatsByWhatWasVoted() {
        Check.holds("Term 3", "Each TOWN that voted above 0 (before WON was one more)");
        VotedRiver x = Check.river(PAIR);
        Check.tell(x, Check.VOTES, "vote 0 when won > 0; vote heads;");
        Check.tell(x, Check.MOVES, "move 0;");
        int[] open = {1, 2, 1, 2};
        for (int day = 0; day < open.length; day++) {
            x.days(1);
            Check.due("open behind day " + day, x.fork(0, 0), open[day]);
            Check.due("who won yesterday did not vote", x.of(1, 6), 0);
            Check.due("who lost on the first day alone voted then", x.of(2, 6), 1);
        }
    }

    private static void defeatsAtTwoForks() {
        Check.holds("Term 3", "FORK by FORK .. DEFEATS one more; the tenth: DEFEATS 0, DAMS one more");
        VotedRiver x = Check.river("fork to 1 and 4;fork to 2 and 3;town 5 needs 1 to 5;town 9 needs 1 to 5;"
                + "town 50 needs 1 to 5;sea;");
        Check.tell(x, Check.MOVES, "move 0;");
        x.days(1);
        Check.due("two in one evening", x.of(2, 6), 2);
        Check.due("one in one evening", x.of(3, 6), 1);
        x.days(3);
        x.buy(0, 0, 99);
        x.days(1);
        Check.due("nine", x.of(2, 6), 9);
        x.days(1);
        Check.due("the tenth and the next one", x.of(2, 6), 1);
        Check.due("a dam", x.of(2, 2), 1);
    }

    private static void bookLines() {
        Check.holds("Term 3", "THE BOOK: DAY, FORK, OPEN, the most VOTES");
        VotedRiver x = Check.river(PAIR);
        Check.due("empty", x.look(2), 0);
        Check.due("no first line", x.book(0, 0), NONE);
        x.days(1);
        x.town(2, 0, 40);
        x.days(1);
        int[][] want = {{0, 0, 1, 30}, {1, 0, 2, 40}};
        for (int what = 0; what < 4; what++) {
            Check.due("book(0, " + what + ")", x.book(0, what), want[0][what]);
            Check.due("book(1, " + what + ")", x.book(1, what), want[1][what]);
        }
        VotedRiver sea = new VotedRiver();
        sea.days(5);
        Check.due("no forks, no lines", sea.look(2), 0);
    }

    private static void bookIsFull() {
        Check.holds("Term 3", "THE BOOK (150 lines; no more then)");
        VotedRiver x = Check.river(EMPTY);
        x.days(100);
        x.days(49);
        Check.due("149 lines", x.look(2), 149);
        Check.due("line 149 is not there", x.book(149, 0), NONE);
        x.buy(0, 1, 7);
        x.days(1);
        Check.due("150 lines", x.look(2), 150);
        Check.due("the last line's day", x.book(149, 0), 149);
        Check.due("the last line's arm", x.book(149, 2), 2);
        x.buy(0, 2, 8);
        x.days(1);
        Check.due("no more then", x.look(2), 150);
        Check.due("line 150 is not there", x.book(150, 0), NONE);
        Check.due("the last line stays", x.book(149, 2), 2);
        Check.due("the first line stays", x.book(0, 0), 0);
        Check.due("evenings go on", x.fork(0, 0), 4);
        x.undo();
        Check.due("a day without a line goes back", x.look(2), 150);
        Check.due("its evening too", x.fork(0, 0), 2);
    }

    private static void bookIsFullWithinADay() {
        Check.holds("Term 3", "THE BOOK (150 lines; no more then)");
        VotedRiver x = Check.river("fork to 1 and 4;fork to 2 and 4;fork to 3 and 4;fork to 4 and 4;sea;");
        x.days(37);
        Check.due("148 lines", x.look(2), 148);
        x.days(1);
        Check.due("two of four", x.look(2), 150);
        Check.due("the last one's day", x.book(149, 0), 37);
        Check.due("the last one's fork", x.book(149, 1), 1);
        x.undo();
        Check.due("the day goes back", x.look(2), 148);
        Check.due("its lines too", x.book(148, 0), NONE);
    }

    private static void whoGoesWhere() {
        Check.holds("Term 3", "each TOWN by number that is not WET: who MOVES goes to the TOWN that is WET");
        VotedRiver x = Check.river(PAIR);
        Check.tell(x, Check.MOVES, "move 99;");
        x.days(1);
        Check.due("all come", x.of(1, 0), 50);
        Check.due("nobody stays", x.of(2, 0), 0);
        x.days(1);
        Check.due("nobody more", x.of(1, 0), 50);
        VotedRiver y = Check.river(PAIR);
        Check.tell(y, Check.MOVES, "move 0;");
        y.days(1);
        Check.due("none come", y.of(1, 0), 30);
        Check.due("all stay", y.of(2, 0), 20);
        VotedRiver both = Check.river("fork to 1 and 2 and 3;town 10 needs 5 to 4;town 20 needs 50 to 4;town 30 needs 60 to 4;sea;");
        Check.tell(both, Check.MOVES, "move town;");
        both.days(1);
        Check.due("from both", both.of(1, 0), 15);
        Check.due("from the second", both.of(2, 0), 18);
        Check.due("from the third", both.of(3, 0), 27);
    }

    private static void movesByTheEvening() {
        Check.holds("Term 3", "Then (behind the evening) each TOWN by number: who MOVES. DAY is one more");
        VotedRiver x = Check.river(PAIR);
        Check.tell(x, Check.MOVES, "move dams;");
        x.days(9);
        Check.due("no dam yet", x.of(2, 0), 20);
        x.days(1);
        Check.due("by the dam of this evening", x.of(2, 0), 19);
        VotedRiver y = Check.river(PAIR);
        Check.tell(y, Check.MOVES, "move day+1;");
        y.days(1);
        Check.due("by the day that it is still", y.of(2, 0), 19);
        y.days(1);
        Check.due("by the next day", y.of(2, 0), 17);
        Check.due("the day is one more", y.look(1), 2);
        VotedRiver z = Check.river(PAIR);
        Check.tell(z, Check.MOVES, "move dry;");
        z.days(1);
        Check.due("by how dry it is this day", z.of(2, 0), 19);
    }

    private static void nobodyIsWet() {
        Check.holds("Term 3", "without one they stay");
        VotedRiver x = Check.river(PAIR);
        x.set(0, 59);
        Check.tell(x, Check.MOVES, "move 9;");
        x.days(1);
        Check.due("the first", x.of(1, 0), 30);
        Check.due("the second", x.of(2, 0), 20);
        x.set(0, 60);
        x.days(1);
        Check.due("with one that is wet", x.of(1, 0), 39);
        Check.due("they go", x.of(2, 0), 11);
    }

    /** Two towns that get half of the water each, and one that is dry: who goes where. */
    private static int goalOf(int base, int firstNeed, int secondNeed) {
        VotedRiver x = Check.river("fork to 1 and 2 and 3;town 1 needs 1 to 4;town 1 needs 1 to 4;town 9 needs 999 to 4;sea;");
        Check.tell(x, Check.VOTES, "vote 0;");
        Check.tell(x, Check.MOVES, "move 5;");
        x.buy(0, 0, 1);
        x.buy(0, 1, 1);
        x.set(0, 0);
        x.days(1);
        x.town(1, 0, 1);
        x.town(2, 0, 1);
        x.town(1, 1, firstNeed);
        x.town(2, 1, secondNeed);
        x.town(1, 2, 1);
        x.town(1, 3, 50);
        x.town(2, 2, 1);
        x.town(2, 3, 50);
        x.set(0, base);
        x.days(1);
        return x.of(1, 0) > 5 ? 1 : x.of(2, 0) > 5 ? 2 : 0;
    }

    private static void mostOver() {
        Check.holds("Term 3", "the TOWN that is WET with the most OVER (GOT less NEED), of several the least");
        Check.due("the first has more", goalOf(100, 49, 50), 1);
        Check.due("the second has more", goalOf(100, 50, 49), 2);
        Check.due("alike", goalOf(100, 50, 50), 1);
        Check.due("by the store, alike below 0", goalOf(100, 60, 60), 1);
        Check.due("by the store, the second less below 0", goalOf(100, 61, 60), 2);
        Check.due("by the store, the first less below 0", goalOf(100, 60, 61), 1);
        Check.due("the second alone is wet", goalOf(100, 101, 100), 2);
        Check.due("the first alone is wet", goalOf(100, 100, 101), 1);
        Check.due("none is wet", goalOf(100, 101, 101), 0);
        VotedRiver top = Check.river("town 10 needs 90 to 1;town 50 needs 20 to 2;sea;");
        top.days(1);
        Check.due("to node 0", top.of(0, 0), 15);
        Check.due("from node 1", top.of(1, 0), 45);
        VotedRiver low = Check.river("town 10 needs 200 to 1;town 50 needs 10 to 2;sea;");
        low.town(1, 2, 1);
        low.town(1, 3, 10);
        low.days(1);
        Check.due("from node 0", low.of(0, 0), 9);
        Check.due("to node 1", low.of(1, 0), 51);
    }

    private static void overWithoutStore() {
        Check.holds("Term 3", "the TOWN that is WET with the most OVER (GOT less NEED; a STORE is not asked)");
        VotedRiver x = Check.river("town 10 needs 60 to 1;fork to 2 and 3;town 10 needs 20 to 4;town 30 needs 5 to 4;sea;");
        x.town(2, 2, 1);
        x.town(2, 3, 50);
        x.days(1);
        Check.due("over 40, without a store", x.of(0, 0), 13);
        Check.due("over 20, with a store of 50", x.of(2, 0), 10);
        Check.due("dry", x.of(3, 0), 27);
        Check.due("the store", x.of(2, 3), 50);
    }

    private static void movesOfAllHeads() {
        Check.holds("Term 3", "who MOVES goes to the TOWN that is WET (nobody lives there, or here then)");
        VotedRiver x = Check.river("fork to 1 and 2;town 0 needs 10 to 3;town 20 needs 10 to 3;sea;");
        Check.tell(x, Check.MOVES, "move heads;");
        x.days(1);
        Check.due("to where nobody lives", x.of(1, 0), 20);
        Check.due("from where nobody lives then", x.of(2, 0), 0);
        Check.due("it stays dry", x.of(2, 5), 1);
        Check.due("and defeated", x.of(2, 6), 0);
        Check.due("open", x.fork(0, 0), 2);
        x.days(1);
        Check.due("back again", x.of(2, 0), 20);
        Check.due("none is left", x.of(1, 0), 0);
        Check.due("who lives nowhere", x.look(9), 20);
    }

    private static void daysThatCanBe() {
        Check.holds("Promise 11", "DAYS go by (1 .. 100)");
        VotedRiver x = new VotedRiver();
        Check.due("days(1)", x.days(1), 0);
        Check.due("one day", x.look(1), 1);
        Check.due("days(100)", x.days(100), 0);
        Check.due("a hundred more", x.look(1), 101);
        for (int n : new int[] {0, -1, 101, 9999, Check.LOWEST, Check.HIGHEST}) {
            Check.due("days(" + n + ")", x.days(n), NONE);
            Check.due("the day stays", x.look(1), 101);
        }
    }

    private static void daysToTheLast() {
        Check.holds("Promise 11", "NONE, and nothing is done .. if DAY would be above 9999");
        VotedRiver x = Check.river(EMPTY);
        for (int i = 0; i < 99; i++) {
            x.days(100);
        }
        Check.due("the day", x.look(1), 9900);
        Check.due("a hundred", x.days(100), NONE);
        Check.due("the day stays", x.look(1), 9900);
        Check.due("99", x.days(99), 0);
        Check.due("the last day", x.look(1), 9999);
        for (int n : new int[] {1, 2, 100}) {
            Check.due("days(" + n + ")", x.days(n), NONE);
            Check.due("the last day stays", x.look(1), 9999);
        }
        Check.due("one goes back", x.undo(), true);
        Check.due("two are too many", x.days(2), NONE);
        Check.due("one is not", x.days(1), 0);
        Check.due("the last day again", x.look(1), 9999);
    }

    private static void daysRefused() {
        Check.holds("Promise 11", "NONE, and nothing is done");
        VotedRiver x = Check.river(PAIR);
        x.set(2, 500);
        x.days(3);
        x.buy(0, 1, 5);
        x.days(2);
        Sight before = Sight.of(x);
        x.days(0);
        x.days(101);
        x.days(-1);
        before.stays("days that are refused");
    }

    private static void howManyFloods() {
        Check.holds("Promise 11", "how many FLOODS");
        VotedRiver x = Check.river("fork to 1 and 1 and 2;fork to 2 and 2;town 20 needs 1 to 3;sea;");
        Check.due("two each day", x.days(1), 2);
        Check.due("two hundred", x.days(100), 200);
        Check.due("in all", x.look(4), 202);
        x.town(2, 0, 0);
        Check.due("none", x.days(100), 0);
        Check.due("in all still", x.look(4), 202);
    }

    private static void forkWhats() {
        Check.holds("Promise 13", "what 0 OPEN, 1 WON, 10 + a, 20 + a. NONE if there is none such, or another what");
        VotedRiver x = Check.river("fork to 1 and 2;fork to 2 and 3 and 4;town 7 needs 1 to 4;sea;sea;");
        x.buy(0, 1, 3);
        x.buy(1, 2, 4);
        int[][] taken = {{0, 1}, {1, 0}, {10, 7}, {11, 7}, {20, 0}, {21, 3}};
        for (int[] pair : taken) {
            Check.due("fork(0, " + pair[0] + ")", x.fork(0, pair[0]), pair[1]);
        }
        Check.due("fork(1, 12)", x.fork(1, 12), 0);
        Check.due("fork(1, 22)", x.fork(1, 22), 4);
        for (int what : new int[] {-1, 2, 9, 12, 13, 19, 22, 23, 30, Check.LOWEST, Check.HIGHEST}) {
            boolean third = what == 12 || what == 22;
            Check.due("fork(0, " + what + ")", x.fork(0, what), NONE);
            Check.due("fork(1, " + what + ")", x.fork(1, what) == NONE, !third);
        }
        for (int node : new int[] {-1, 2, 3, 4, 5, 15, 16, Check.LOWEST, Check.HIGHEST}) {
            for (int what : new int[] {0, 1, 10, 20}) {
                Check.due("fork(" + node + ", " + what + ")", x.fork(node, what), NONE);
            }
        }
    }

    private static void ofWhats() {
        Check.holds("Promise 14", "Of a TOWN what 0 .. 8. NONE if there is none such, or another what");
        VotedRiver x = Check.river(PAIR);
        x.town(1, 2, 1);
        x.town(1, 3, 7);
        x.days(1);
        int[] want = {32, 60, 1, 47, 100, 0, 0, 1, 0};
        for (int what = 0; what < 9; what++) {
            Check.due("of(1, " + what + ")", x.of(1, what), want[what]);
        }
        for (int what : new int[] {-1, 9, 10, Check.LOWEST, Check.HIGHEST}) {
            Check.due("of(1, " + what + ")", x.of(1, what), NONE);
        }
        for (int node : new int[] {-1, 0, 3, 4, 15, 16, Check.LOWEST, Check.HIGHEST}) {
            for (int what = 0; what < 9; what++) {
                Check.due("of(" + node + ", " + what + ")", x.of(node, what), NONE);
            }
        }
    }

    private static void cameFromWhere() {
        Check.holds("Promise 16", "CAME from a NODE to another one (0 at first); NONE if there is none such");
        VotedRiver x = Check.river(PAIR);
        Check.due("at first", x.came(0, 1), 0);
        x.days(1);
        Check.due("on the latest day", x.came(0, 1), 100);
        Check.due("from a town", x.came(1, 3), 40);
        Check.due("not straight", x.came(0, 3), 0);
        Check.due("not back", x.came(1, 0), 0);
        x.set(0, 30);
        x.days(1);
        Check.due("of the latest day alone", x.came(0, 1), 30);
        Check.due("nothing on the latest day", x.came(1, 3), 0);
        for (int node : new int[] {-1, 4, 15, 16, Check.LOWEST, Check.HIGHEST}) {
            Check.due("came(" + node + ", 3)", x.came(node, 3), NONE);
            Check.due("came(0, " + node + ")", x.came(0, node), NONE);
        }
        x.undo();
        Check.due("of the day before, behind undo", x.came(0, 1), 100);
        VotedRiver y = Check.river(PAIR);
        y.days(1);
        y.undo();
        Check.due("as at first, behind undo", y.came(0, 1), 0);
    }

    private static void bookOfNoLine() {
        Check.holds("Promise 17", "Of line i of THE BOOK what 0 .. 3. NONE if there is none such, or another what");
        VotedRiver x = Check.river(PAIR);
        x.days(2);
        for (int i : new int[] {-1, 2, 149, 150, Check.LOWEST, Check.HIGHEST}) {
            for (int what = 0; what < 4; what++) {
                Check.due("book(" + i + ", " + what + ")", x.book(i, what), NONE);
            }
        }
        for (int what : new int[] {-1, 4, Check.LOWEST, Check.HIGHEST}) {
            Check.due("book(0, " + what + ")", x.book(0, what), NONE);
            Check.due("book(1, " + what + ")", x.book(1, what), NONE);
        }
        Check.due("the last line", x.book(1, 0), 1);
        Check.due("the last what", x.book(1, 3), 32);
    }
}

/** Term 2 (texts): what laws give, at their edges; promises 13 (what 10 + a), 14 (what 8) and 15. */
public final class EdgeLawTest {
    private static final int NONE = Check.NONE;
    private static final int VOTES = Check.VOTES;
    private static final int MOVES = Check.MOVES;
    private static final String PAIR = "fork to 1 and 2;town 30 needs 60 to 3;town 20 needs 40 to 3;sea;";
    // The highest int, of numbers of four digits.
    private static final String TOP = "9999*9999*21+4790*9999+8416";

    public static void main(String[] args) {
        intsWrap();
        partsGoTowardsZero();
        productsBeforeSums();
        comparisons();
        conditions();
        votesAreHeld();
        votesWithoutALine();
        firstLineThatFits();
        sixteenLines();
        lawToldAnew();
        nobodyHasNoVotes();
        headsAboveThoseOfAText();
        eachIsAskedAlone();
        behindAnArm();
        farByTheFewestSteps();
        wonIfOpenAlone();
        twiceBehind();
        dayAndForkAndArm();
        movesAreHeld();
        movesWithoutALine();
        movesOfWhoIsWet();
        movesByAll();
        votesOfNoTown();
        votesOfAFork();
        Check.finish();
    }

    private static void isSo(String condition, boolean so) {
        VotedRiver x = Check.river("fork to 1 and 1;town 9 needs 7 to 2;sea;");
        Check.due("told: " + condition, Check.tell(x, VOTES, "vote 1 when " + condition + ";vote 2;"), 2);
        Check.due("votes when " + condition, x.votes(1, 0, 1), so ? 1 : 2);
    }

    private static void intsWrap() {
        Check.holds("Term 2", "Ints, which wrap");
        isSo(TOP + ">0", true);
        isSo(TOP + "+1<0", true);
        isSo("0-1-9999*9999*21-4790*9999-8416<0", true);
        isSo("0-2-9999*9999*21-4790*9999-8416<0", false);
        isSo("9999*9999*21>0", true);
        isSo("9999*9999*22<0", true);
        // 4299140043 is 4172747 then.
        isSo("9999*9999*43-417*9999=3164", true);
    }

    private static void partsGoTowardsZero() {
        Check.holds("Term 2", "/ goes towards 0");
        isSo("7/2=3", true);
        isSo("8/2=4", true);
        isSo("1/2=0", true);
        isSo("need/7=1", true);
        isSo("need/8=0", true);
        isSo("9999/9999=1", true);
        isSo("9998/9999=0", true);
        // 9999*9999*22 wraps to -2095407274, a tenth of it is -209540727.4.
        isSo("9999*9999*22/10=0-9999*9999*2-958*9999-1683", true);
        isSo("9999*9999*22/1=9999*9999*22", true);
    }

    private static void productsBeforeSums() {
        Check.holds("Term 2", "E = T {(+ | -) T}. T = U {* U | / NUMBER}");
        isSo("1+2*3=7", true);
        isSo("2*3+1=7", true);
        isSo("10-2-3=5", true);
        isSo("10-2+3=11", true);
        isSo("10-4/2=8", true);
        isSo("7/2*2=6", true);
        isSo("2*7/2=7", true);
        isSo("100/7/2=7", true);
        isSo("1-1*0+2*2*2-3=6", true);
    }

    private static void comparisons() {
        Check.holds("Term 2", "C = E (< | = | >) E");
        isSo("1<2", true);
        isSo("2<2", false);
        isSo("3<2", false);
        isSo("1=2", false);
        isSo("2=2", true);
        isSo("3=2", false);
        isSo("1>2", false);
        isSo("2>2", false);
        isSo("3>2", true);
        isSo("0-1<0", true);
        isSo("0>0-1", true);
        // The one is less the other above the highest int.
        isSo(TOP + ">0-9999", true);
        isSo("0-9999<" + TOP, true);
        isSo("0-9999>" + TOP, false);
        isSo(TOP + "<0-9999", false);
        isSo(TOP + "=0-9999", false);
    }

    private static void conditions() {
        Check.holds("Term 2", "B = A {or A}. A = C {and C}. C = .. | not C | ( B )");
        isSo("1=1 or 1=1 and 1=2", true);
        isSo("1=2 and 1=1 or 1=1", true);
        isSo("(1=1 or 1=1) and 1=2", false);
        isSo("not 1=2 and 1=2", false);
        isSo("not 1=1 or 1=1", true);
        isSo("not (1=2 or 1=1)", false);
        isSo("not not 1=1", true);
        isSo("not not not 1=1", false);
        isSo("1=2 or 1=2 or 1=1", true);
        isSo("1=1 and 1=1 and 1=2", false);
        isSo("1<2 and 2>1 and 1=1", true);
        isSo("1=1 and 2>1 and 1<2", true);
        isSo("not 1<2", false);
        isSo("not 2>1", false);
        isSo("not 1=1", false);
        isSo("not 2<1 and not 1>2 and not 1=2", true);
        isSo("1<2 or 2=1", true);
        isSo("2<1 or 2>1", true);
        isSo("2<1 or 1>2 or 1=2", false);
    }

    private static void votesAreHeld() {
        Check.holds("Term 2", "E .. held to 0 .. HEADS");
        VotedRiver x = Check.river(PAIR);
        String[] law = {"0", "1", "heads-1", "heads", "heads+1", "9999", "0-1", TOP + "+1", TOP};
        int[] votes = {0, 1, 29, 30, 30, 30, 0, 0, 30};
        for (int i = 0; i < law.length; i++) {
            Check.tell(x, VOTES, "vote " + law[i] + ";");
            Check.due("votes by " + law[i], x.votes(1, 0, 0), votes[i]);
        }
    }

    private static void votesWithoutALine() {
        Check.holds("Term 2", "E of the first line of VOTES whose B is so, or that has none (none: HEADS)");
        VotedRiver x = Check.river(PAIR);
        Check.due("an empty law", x.votes(1, 0, 0), 30);
        Check.tell(x, VOTES, "vote 1 when heads=20;");
        Check.due("no line fits", x.votes(1, 0, 0), 30);
        Check.due("a line fits", x.votes(2, 0, 1), 1);
    }

    private static void firstLineThatFits() {
        Check.holds("Term 2", "E of the first line of VOTES whose B is so, or that has none");
        VotedRiver x = Check.river(PAIR);
        Check.tell(x, VOTES, "vote 1 when heads=30;vote 2;vote 3;");
        Check.due("the first line", x.votes(1, 0, 0), 1);
        Check.due("the second line", x.votes(2, 0, 1), 2);
    }

    private static void sixteenLines() {
        Check.holds("Term 2", "{vote E [when B] ;} (sixteen lines)");
        VotedRiver x = Check.river(PAIR);
        Check.tell(x, VOTES, "vote 1 when 1=2;".repeat(15) + "vote 7;");
        Check.due("lines of votes", x.look(6), 16);
        Check.due("by the last of them", x.votes(1, 0, 0), 7);
        Check.tell(x, MOVES, "move 1 when 1=2;".repeat(15) + "move 9;");
        Check.due("lines of moves", x.look(7), 16);
        Check.due("by the last of them", x.of(1, 8), 9);
    }

    private static void lawToldAnew() {
        Check.holds("Promise 9", "The TAPE is TEXT k (nothing stays of the law before)");
        VotedRiver x = Check.river(PAIR);
        Check.tell(x, VOTES, "vote 1 when not 1=1;vote 2;vote 3;");
        Check.due("by the law before", x.votes(1, 0, 0), 2);
        Check.due("a shorter one", Check.tell(x, VOTES, "vote 1 when 1=2;"), 1);
        Check.due("no line fits", x.votes(1, 0, 0), 30);
        Check.due("an empty one", Check.tell(x, VOTES, ""), 0);
        Check.due("no line", x.votes(1, 0, 0), 30);
    }

    private static void nobodyHasNoVotes() {
        Check.holds("Term 2", "held to 0 .. HEADS (HEADS 0)");
        VotedRiver x = Check.river(PAIR);
        x.town(1, 0, 0);
        Check.due("without a law", x.votes(1, 0, 0), 0);
        Check.tell(x, VOTES, "vote 7;");
        Check.due("by a law", x.votes(1, 0, 0), 0);
        x.town(1, 0, 1);
        Check.due("one head", x.votes(1, 0, 0), 1);
    }

    private static void headsAboveThoseOfAText() {
        Check.holds("Term 2", "heads, dry, got, need: the TOWN's (HEADS 0 .. 9999)");
        VotedRiver x = Check.river(PAIR);
        x.town(1, 0, 9999);
        Check.tell(x, VOTES, "vote 7 when heads = 9999; vote 0;");
        Check.tell(x, MOVES, "move heads - 1;");
        Check.due("votes", x.votes(1, 0, 0), 7);
        Check.due("who would move", x.of(1, 8), 9998);
        Check.tell(x, VOTES, "");
        Check.due("without a law", x.votes(1, 0, 0), 9999);
    }

    /** Of town 8, at fork 4, each thing that is asked is another number. */
    private static VotedRiver ofAllSorts() {
        VotedRiver x = Check.river("fork to 4 and 4;sea;sea;sea;fork to 5 and 8 and 6;sea;"
                + "town 0 needs 1 to 7;town 0 needs 1 to 8;town 1 needs 700 to 9;sea;");
        x.town(8, 0, 9000);
        Check.tell(x, VOTES, "vote heads when arm = 2 and fork = 4; vote 0;");
        Check.tell(x, MOVES, "move 0;");
        x.set(0, 999);
        x.days(2);
        x.set(0, 500);
        x.days(3);
        Check.tell(x, VOTES, "vote 0;");
        x.days(1);
        x.town(8, 2, 7);
        x.town(8, 3, 160);
        return x;
    }

    private static void eachIsAskedAlone() {
        VotedRiver x = ofAllSorts();
        Check.holds("Term 2", "Of VOTES: heads | dry | got | need | far | arm | won | twice | day | fork");
        String[] votes = {"heads", "dry", "got", "need", "far", "arm", "won", "twice", "day", "fork"};
        int[] voted = {9000, 4, 498, 700, 3, 2, 5, 1, 6, 4};
        for (int i = 0; i < votes.length; i++) {
            Check.tell(x, VOTES, "vote " + votes[i] + ";");
            Check.due(votes[i], x.votes(8, 4, 2), voted[i]);
        }
        Check.holds("Term 2", "Of MOVES: heads | dry | got | need | dams | day | town");
        String[] moves = {"heads", "dry", "got", "need", "dams", "day", "town"};
        int[] moved = {9000, 4, 498, 700, 7, 6, 8};
        for (int i = 0; i < moves.length; i++) {
            Check.tell(x, MOVES, "move " + moves[i] + ";");
            Check.due(moves[i], x.of(8, 8), moved[i]);
        }
    }

    private static void behindAnArm() {
        Check.holds("Term 2", "BEHIND an ARM: the NODE to which it goes, and all to which one comes from there");
        VotedRiver x = Check.river("town 4 needs 1 to 1;fork to 2 and 3;town 5 needs 1 to 4;town 6 needs 1 to 5;"
                + "town 7 needs 1 to 5;sea;");
        Check.due("above the fork", x.votes(0, 1, 0), 0);
        Check.due("the node to which it goes", x.votes(2, 1, 0), 5);
        Check.due("by a town", x.votes(4, 1, 0), 7);
        Check.due("the other arm's", x.votes(3, 1, 0), 0);
        Check.due("of the other arm", x.votes(3, 1, 1), 6);
        Check.due("not of the other arm", x.votes(4, 1, 1), 0);
        x.dig(1, 0, 5);
        Check.due("no longer", x.votes(2, 1, 0), 0);
        VotedRiver far = Check.river("fork to 1 and 3;fork to 2 and 3;town 5 needs 1 to 3;sea;");
        Check.due("over another fork", far.votes(2, 0, 0), 5);
        far.dig(1, 0, 3);
        Check.due("no longer, though the fork's own arms stay", far.votes(2, 0, 0), 0);
        far.dig(1, 1, 2);
        Check.due("by the other fork's other arm", far.votes(2, 0, 0), 5);
        VotedRiver y = Check.river("fork to 1 and 2;fork to 3 and 4;sea;sea;town 5 needs 1 to 5;sea;");
        Check.due("by an arm that is not open", y.votes(4, 0, 0), 5);
        Check.due("not by a sea", y.votes(4, 0, 1), 0);
    }

    private static void farByTheFewestSteps() {
        Check.holds("Term 2", "far: the fewest steps from the FORK by that ARM");
        VotedRiver x = Check.river("fork to 1 and 4;town 99 needs 1 to 2;fork to 3 and 4;town 99 needs 1 to 4;"
                + "town 99 needs 1 to 5;sea;");
        Check.tell(x, VOTES, "vote far;");
        Check.due("the next node", x.votes(1, 0, 0), 1);
        Check.due("behind a fork", x.votes(3, 0, 0), 3);
        Check.due("of two ways the shorter one", x.votes(4, 0, 0), 3);
        Check.due("by the other arm", x.votes(4, 0, 1), 1);
        Check.due("from the second fork", x.votes(4, 2, 1), 1);
        Check.due("by the longer way alone", x.votes(4, 2, 0), 2);
        StringBuilder chain = new StringBuilder("fork to 1 and 15;");
        for (int i = 1; i < 15; i++) {
            chain.append("town 99 needs 1 to ").append(i + 1).append(";");
        }
        VotedRiver y = Check.river(chain + "sea;");
        Check.tell(y, VOTES, "vote far;");
        Check.due("fourteen steps", y.votes(14, 0, 0), 14);
    }

    private static void wonIfOpenAlone() {
        Check.holds("Term 2", "won: WON, if it is OPEN alone, else 0");
        VotedRiver x = Check.river("fork to 1 and 1;town 99 needs 1 to 2;sea;");
        x.set(0, 0);
        x.buy(0, 0, 1);
        Check.tell(x, VOTES, "vote 5+won;");
        Check.due("at first", x.votes(1, 0, 0), 5);
        x.days(1);
        Check.due("open alone", x.votes(1, 0, 0), 6);
        Check.due("not open", x.votes(1, 0, 1), 5);
        x.buy(0, 1, 1);
        Check.due("a flood", x.days(1), 1);
        Check.due("open, not alone", x.votes(1, 0, 0), 5);
        Check.due("open, not alone", x.votes(1, 0, 1), 5);
    }

    private static void twiceBehind() {
        Check.holds("Term 2", "twice: 1, if the TOWN is BEHIND another ARM of the FORK, too, else 0");
        VotedRiver x = Check.river("fork to 1 and 2 and 3;town 9 needs 1 to 2;town 9 needs 1 to 3;town 9 needs 1 to 4;sea;");
        Check.tell(x, VOTES, "vote 5+twice;");
        Check.due("behind one arm", x.votes(1, 0, 0), 5);
        Check.due("behind two arms", x.votes(2, 0, 0), 6);
        Check.due("by the other one", x.votes(2, 0, 1), 6);
        Check.due("behind three arms", x.votes(3, 0, 2), 6);
        x.dig(0, 0, 2);
        Check.due("behind two arms that go there", x.votes(2, 0, 1), 6);
        x.dig(0, 0, 3);
        Check.due("behind one arm then", x.votes(2, 0, 1), 5);
    }

    private static void dayAndForkAndArm() {
        Check.holds("Term 2", "arm; .. day; fork: its NODE");
        VotedRiver x = Check.river("sea;fork to 2 and 2 and 2;town 99 needs 1 to 3;sea;");
        Check.tell(x, VOTES, "vote 5+arm+day*10+fork*20;");
        Check.due("arm 0, day 0, fork 1", x.votes(2, 1, 0), 25);
        Check.due("arm 2", x.votes(2, 1, 2), 27);
        x.days(2);
        Check.due("day 2", x.votes(2, 1, 2), 47);
        Check.holds("Term 3", "the EVENING .. (by all that is as it is then)");
        Check.due("the evening's day is the day's own", x.book(1, 3), 37);
    }

    private static void movesAreHeld() {
        Check.holds("Term 2", "Who MOVES: E of the first line of MOVES likewise, held to 0 .. HEADS");
        VotedRiver x = Check.river(PAIR);
        String[] law = {"0", "1", "heads-1", "heads", "heads+1", "9999", "0-1", TOP + "+1", TOP};
        int[] moves = {0, 1, 29, 30, 30, 30, 0, 0, 30};
        for (int i = 0; i < law.length; i++) {
            Check.tell(x, MOVES, "move " + law[i] + ";");
            Check.due("moves by " + law[i], x.of(1, 8), moves[i]);
        }
        Check.tell(x, MOVES, "move 1 when heads=30;move 2;");
        Check.due("the first line", x.of(1, 8), 1);
        Check.due("the second line", x.of(2, 8), 2);
    }

    private static void movesWithoutALine() {
        Check.holds("Term 2", "Who MOVES .. (none: HEADS by 10)");
        VotedRiver x = Check.river(PAIR);
        int[][] heads = {{0, 0}, {1, 0}, {9, 0}, {10, 1}, {19, 1}, {20, 2}, {9999, 999}};
        for (int[] pair : heads) {
            x.town(1, 0, pair[0]);
            Check.due("of " + pair[0], x.of(1, 8), pair[1]);
        }
        Check.tell(x, MOVES, "move 7 when heads=20;");
        Check.due("no line fits", x.of(1, 8), 999);
        Check.due("a line fits", x.of(2, 8), 7);
    }

    private static void movesOfWhoIsWet() {
        Check.holds("Promise 14", "8 who would MOVE now (0 if it is WET)");
        VotedRiver x = Check.river(PAIR);
        Check.tell(x, MOVES, "move 7;");
        Check.due("before the first day", x.of(1, 8), 7);
        x.days(1);
        Check.due("wet", x.of(1, 8), 0);
        Check.due("dry", x.of(2, 8), 7);
    }

    private static void movesByAll() {
        Check.holds("Term 2", "Of MOVES: heads | dry | got | need | dams | day | town");
        VotedRiver x = Check.river(PAIR);
        x.set(0, 59);
        x.days(3);
        x.town(1, 2, 9);
        x.town(1, 0, 999);
        String[] law = {"heads-1", "dry", "got", "need", "dams", "day", "town", "dams*100+day*10+town"};
        int[] moves = {998, 3, 59, 60, 9, 3, 1, 931};
        for (int i = 0; i < law.length; i++) {
            Check.tell(x, MOVES, "move " + law[i] + ";");
            Check.due("moves by " + law[i], x.of(1, 8), moves[i]);
        }
    }

    private static void votesOfNoTown() {
        Check.holds("Promise 15", "(0, if it is not BEHIND it); NONE if there is none such");
        VotedRiver x = Check.river("fork to 1 and 2;town 30 needs 60 to 3;town 20 needs 40 to 3;sea;");
        Check.due("behind it", x.votes(1, 0, 0), 30);
        Check.due("not behind it", x.votes(1, 0, 1), 0);
        for (int town : new int[] {-1, 0, 3, 4, 15, 16, Check.LOWEST, Check.HIGHEST}) {
            Check.due("votes(" + town + ", 0, 0)", x.votes(town, 0, 0), NONE);
        }
        for (int fork : new int[] {-1, 1, 3, 4, 15, 16, Check.LOWEST, Check.HIGHEST}) {
            Check.due("votes(1, " + fork + ", 0)", x.votes(1, fork, 0), NONE);
        }
        for (int arm : new int[] {-1, 2, 3, Check.LOWEST, Check.HIGHEST}) {
            Check.due("votes(1, 0, " + arm + ")", x.votes(1, 0, arm), NONE);
        }
        VotedRiver three = Check.river("fork to 1 and 1 and 1;town 30 needs 60 to 2;sea;");
        Check.due("the third arm of three", three.votes(1, 0, 2), 30);
        Check.due("the fourth arm of three", three.votes(1, 0, 3), NONE);
    }

    private static void votesOfAFork() {
        Check.holds("Promise 13", "10 + a VOTES for ARM a now (BOUGHT not counted)");
        VotedRiver x = Check.river("fork to 1 and 3;town 30 needs 60 to 2;town 20 needs 40 to 3;sea;");
        x.buy(0, 0, 999);
        Check.due("of both towns", x.fork(0, 10), 50);
        Check.due("of none", x.fork(0, 11), 0);
        x.town(1, 0, 9999);
        x.town(2, 0, 9999);
        Check.due("of both, all full", x.fork(0, 10), 19998);
    }
}

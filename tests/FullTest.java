/** All places taken: sixteen nodes, the third arm, four hundred bytes; nothing is cut at the last one. */
public final class FullTest {
    private static final int NONE = Check.NONE;
    private static final String THREE = "fork to 1 and 2 and 3;town 10 needs 10 to 4;town 11 needs 10 to 4;"
            + "town 25 needs 90 to 4;sea;";

    public static void main(String[] args) {
        lastFork();
        lastTown();
        longestLaw();
        deepestLaw();
        manyVotesInTheBook();
        manyMove();
        thirdArm();
        thirdArmIsDug();
        digToAFork();
        leastAtManyForks();
        noDrawsInCounsel();
        Check.finish();
    }

    /** Forks 0 .. 14, each going to the next one by all its arms, and a sea. */
    private static String forks() {
        StringBuilder text = new StringBuilder();
        for (int next = 1; next < 15; next++) {
            text.append("fork to ").append(next).append(" and ").append(next).append(';');
        }
        return text.append("fork to 15 and 15 and 15;sea;").toString();
    }

    private static void lastFork() {
        Check.holds("Term 1", "NODES 0 .. 15; a FORK has two or three ARMS");
        VotedRiver x = Check.river(forks());
        Check.due("nodes", x.look(0), 16);
        for (int arm = 0; arm < 3; arm++) {
            Check.due("arm " + arm, x.node(14, 10 + arm), 15);
        }
        Check.due("bought", x.buy(14, 2, 999), true);
        x.days(1);
        Check.due("open", x.fork(14, 0), 4);
        Check.due("came from node 13", x.came(13, 14), 100);
        Check.due("came to node 15", x.came(14, 15), 100);
        Check.due("to seas", x.look(3), 100);
        Check.holds("Promise 17", "Of line i of THE BOOK what 0 DAY, 1 FORK, 2 OPEN, 3 VOTES");
        Check.due("lines", x.look(2), 15);
        int[] line = {0, 14, 4, 999};
        for (int what = 0; what < 4; what++) {
            Check.due("book(14, " + what + ")", x.book(14, what), line[what]);
        }
        Check.due("dig to the last node", x.dig(13, 1, 15), true);
        Check.due("no set", x.twice(14), 0);
    }

    private static void lastTown() {
        Check.holds("Term 1", "NODES 0 .. 15; a TOWN goes on to a NODE");
        VotedRiver x = Check.river("fork to 14 and 14;" + "sea;".repeat(13) + "town 7 needs 9 to 15;sea;");
        Check.due("it goes on to", x.node(14, 10), 15);
        x.days(1);
        Check.due("came", x.came(14, 15), 91);
        Check.due("heads", x.look(9), 7);
        Check.due("power", x.power(0, 14), 1);
        Check.due("twice", x.twice(0), 1 << 14);
        Check.due("most", x.most(1 << 14), 9);
        Check.due("mud", x.mud(1 << 14, 0), 2);
        Check.due("least", x.least(14, 0), 1);
    }

    private static void longestLaw() {
        Check.holds("Term 2", "E = T {(+ | -) T} (four hundred bytes)");
        VotedRiver x = Check.river(THREE);
        x.town(1, 0, 9999);
        String sum = "+1".repeat(196);
        Check.due("votes told", Check.tell(x, Check.VOTES, "vote 9" + sum + " ;"), 1);
        Check.due("all of it counts", x.votes(1, 0, 0), 205);
        Check.due("moves told", Check.tell(x, Check.MOVES, "move 9" + sum + " ;"), 1);
        Check.due("who would move", x.of(1, 8), 205);
        String late = "vote 9" + "+1".repeat(180) + " when 1<2 and ";
        Check.due("a condition behind it", Check.tell(x, Check.VOTES, late + "2<3;"), 1);
        Check.due("it is so", x.votes(1, 0, 0), 189);
        Check.due("another condition behind it", Check.tell(x, Check.VOTES, late + "3<2;"), 1);
        Check.due("it is not so", x.votes(1, 0, 0), 9999);
        String ands = " and 1<2".repeat(45);
        Check.due("many conditions", Check.tell(x, Check.VOTES, "vote 3 when 0<1" + ands + ";"), 1);
        Check.due("all are so", x.votes(1, 0, 0), 3);
        Check.due("the last is not so", Check.tell(x, Check.VOTES, "vote 3 when 0<1" + ands + " and 2<1;"), 1);
        Check.due("votes then", x.votes(1, 0, 0), 9999);
        String ors = " or 2<1".repeat(50);
        Check.due("the last of many", Check.tell(x, Check.VOTES, "vote 4 when 1<0" + ors + " or 1<2;"), 1);
        Check.due("it is so", x.votes(1, 0, 0), 4);
    }

    private static void deepestLaw() {
        Check.holds("Term 2", "C = .. | ( B ) (eight that are open)");
        VotedRiver x = Check.river(THREE);
        String deep = "2<1 or 1<2 and (".repeat(8);
        String[] inner = {"1<2", "2<1", "9-2*3=1+1*2", "9-2*3=1+1*3", "2<1 or 1<2 and 9-2*3=1+1*2"};
        boolean[] so = {true, false, true, false, true};
        for (int i = 0; i < inner.length; i++) {
            String law = "vote 3 when " + deep + inner[i] + ")".repeat(8) + ";";
            Check.due("told: " + law, Check.tell(x, Check.VOTES, law), 1);
            Check.due("votes when " + inner[i], x.votes(1, 0, 0), so[i] ? 3 : 10);
        }
    }

    private static void manyVotesInTheBook() {
        Check.holds("Term 3", "THE BOOK: DAY, FORK, OPEN, the most VOTES (heads of several towns, and what is bought)");
        VotedRiver x = Check.river("fork to 1 and 3;town 1 needs 1 to 2;town 1 needs 1 to 3;sea;");
        x.town(1, 0, 9999);
        x.town(2, 0, 9999);
        x.buy(0, 0, 999);
        x.days(1);
        Check.due("the most", x.book(0, 3), 20997);
        VotedRiver flood = Check.river("fork to 1 and 1 and 1;town 5 needs 1 to 2;sea;");
        Check.due("a flood", flood.days(1), 1);
        Check.due("all are open", flood.book(0, 2), 7);
        Check.due("votes for each", flood.book(0, 3), 5);
    }

    private static void manyMove() {
        Check.holds("Term 3", "who MOVES goes to the TOWN that is WET (all of many)");
        VotedRiver x = Check.river("fork to 1 and 2;town 3 needs 1 to 3;town 3 needs 1 to 3;sea;");
        x.town(2, 0, 9999);
        Check.tell(x, Check.MOVES, "move heads - 1;");
        x.days(1);
        Check.due("there", x.of(1, 0), 10001);
        Check.due("here", x.of(2, 0), 1);
    }

    private static void thirdArm() {
        Check.holds("Promise 22", "more than each other ARM of the FORK has (the third, too)");
        VotedRiver x = Check.river(THREE);
        x.town(2, 0, 9);
        Check.due("against the third arm", x.fewest(0, 0), NONE);
        Check.due("for the third arm", x.fewest(0, 2), 1);
        x.town(1, 0, 26);
        Check.due("more than the third arm", x.fewest(0, 0), 1);
        Check.holds("Promise 23", "the ARM must be OPEN alone (the third, too)");
        x.town(1, 0, 10);
        Check.due("against the third arm", x.least(1, 0), 16);
        Check.due("by the third arm", x.least(3, 0), 0);
        x.town(1, 0, 30);
        Check.due("votes at the fork", x.least(3, 10), 6);
        Check.holds("Promise 26", "10 + f the ARM of FORK f by the first (the third)");
        Check.due("one way", x.mud(8, 0), 1);
        Check.due("its arm", x.mud(8, 10), 2);
        Check.due("another way", x.mud(4, 10), 1);
    }

    private static void thirdArmIsDug() {
        Check.holds("Promise 24", "what 0 the FORK, 1 the ARM, 2 the NODE (the third arm)");
        VotedRiver x = Check.river("fork to 1 and 1 and 2;sea;sea;town 8 needs 50 to 4;sea;");
        x.buy(0, 2, 1);
        x.days(1);
        int[] want = {0, 2, 3, 8};
        for (int what = 0; what < 4; what++) {
            Check.due("best(" + what + ")", x.best(what), want[what]);
        }
    }

    private static void digToAFork() {
        Check.holds("Promise 24", "one ARM of one FORK to another NODE (a FORK)");
        VotedRiver x = Check.river("fork to 1 and 2;town 5 needs 10 to 4;fork to 3 and 4;town 50 needs 90 to 5;sea;sea;");
        int[] want = {0, 0, 2, 50};
        for (int what = 0; what < 4; what++) {
            Check.due("best(" + what + ")", x.best(what), want[what]);
        }
    }

    private static void leastAtManyForks() {
        Check.holds("Promise 23", "10 + f how many at FORK f (a way by many FORKS)");
        StringBuilder text = new StringBuilder();
        for (int next = 1; next < 13; next++) {
            text.append("fork to ").append(next).append(" and ").append(next).append(';');
        }
        VotedRiver x = Check.river(text + "fork to 13 and 14;town 30 needs 1 to 15;town 20 needs 100 to 15;sea;");
        Check.due("in all", x.least(14, 0), 23);
        for (int fork = 0; fork < 12; fork++) {
            Check.due("at fork " + fork, x.least(14, 10 + fork), 1);
        }
        Check.due("at fork 12", x.least(14, 22), 11);
        Check.due("the other town in all", x.least(13, 0), 12);
        Check.due("the other town at fork 12", x.least(13, 22), 0);
    }

    private static void noDrawsInCounsel() {
        Check.holds("Term 4", "no DRAWS: FLOW is BASE");
        for (int what = 2; what < 4; what++) {
            VotedRiver x = Check.river("fork to 1 and 2;town 5 needs 60 to 3;town 9 needs 100 to 3;sea;");
            x.set(what, 1000);
            Check.due("least", x.least(2, 0), 0);
            Check.due("least of the first", x.least(1, 0), 5);
            Check.due("best", x.best(3), 9);
            Check.due("most", x.most(6), 100);
            Check.due("mud", x.mud(4, 0), 1);
            Check.due("later", x.later(1, 1, 4), 100);
            x.town(2, 1, 101);
            Check.due("least of more than comes", x.least(2, 0), NONE);
            Check.due("best of more than comes", x.best(0), NONE);
            Check.due("mud of more than comes", x.mud(4, 0), 0);
            Check.due("no draw", x.look(5), 0);
        }
    }
}

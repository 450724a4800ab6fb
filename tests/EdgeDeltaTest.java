/** Term 1 (the delta) and promises 1 and 12: the last that can be, and the first that can't. */
public final class EdgeDeltaTest {
    private static final int NONE = Check.NONE;
    private static final int DELTA = Check.DELTA;
    private static final String FIFTEEN_SEAS = "sea;".repeat(15);

    public static void main(String[] args) {
        numbersOfNodes();
        aSeaAlone();
        howManyArms();
        townsGoOnToOne();
        greaterNumbers();
        severalGoToOne();
        settingsAtFirst();
        forksAtFirst();
        townsAtFirst();
        newObjectHasNothing();
        nodeOfNoNode();
        nodeOfAnotherWhat();
        Check.finish();
    }

    private static void numbersOfNodes() {
        Check.holds("Term 1", "NODES 0 .. 15");
        VotedRiver x = Check.river("fork to 1 and 15;" + FIFTEEN_SEAS);
        Check.due("sixteen nodes", x.look(0), 16);
        Check.due("the last node's sort", x.node(15, 0), 2);
        Check.due("an arm to the last node", x.node(0, 11), 15);
        Check.due("a seventeenth", x.node(16, 0), NONE);
        Check.fine(DELTA, "sea;", 1);
        Check.fine(DELTA, "sea;" + FIFTEEN_SEAS, 16);
        Check.fault(DELTA, "sea;sea;" + FIFTEEN_SEAS, 3, 64);
    }

    private static void aSeaAlone() {
        Check.holds("Term 1", "NODES (at first one alone: a SEA)");
        VotedRiver x = new VotedRiver();
        Check.due("look(0)", x.look(0), 1);
        Check.due("node(0, 0)", x.node(0, 0), 2);
        Check.due("node(1, 0)", x.node(1, 0), NONE);
        x.days(1);
        Check.due("it takes what comes", x.look(3), 100);
    }

    private static void howManyArms() {
        Check.holds("Term 1", "A FORK has two or three ARMS");
        Check.fault(DELTA, "fork to 1;sea;", 1, 9);
        Check.fault(DELTA, "fork to 1 and 1 and 1 and 1;sea;", 1, 22);
        VotedRiver two = Check.river("fork to 1 and 2;sea;sea;");
        Check.due("two arms", two.node(0, 1), 2);
        Check.due("arm 1 of two", two.node(0, 11), 2);
        Check.due("arm 2 of two", two.node(0, 12), NONE);
        VotedRiver three = Check.river("fork to 1 and 2 and 3;sea;sea;sea;");
        Check.due("three arms", three.node(0, 1), 3);
        Check.due("arm 2 of three", three.node(0, 12), 3);
        Check.due("arm 3 of three", three.node(0, 13), NONE);
    }

    private static void townsGoOnToOne() {
        Check.holds("Term 1", "a TOWN .. goes on to a NODE; a SEA takes what comes");
        Check.fault(DELTA, "town 5 needs 5;sea;", 1, 14);
        Check.fault(DELTA, "town 5 needs 5 to 1 and 1;sea;", 1, 20);
        Check.fault(DELTA, "sea to 1;sea;", 1, 4);
        VotedRiver x = Check.river("town 5 needs 5 to 2;sea;sea;");
        Check.due("a town's arms", x.node(0, 1), 1);
        Check.due("where it goes on to", x.node(0, 10), 2);
        Check.due("a sea's arms", x.node(1, 1), 0);
        Check.due("a sea goes nowhere", x.node(1, 10), NONE);
        x.days(1);
        Check.due("to the sea behind the town", x.came(0, 2), 95);
        Check.due("to no other one", x.came(0, 1), 0);
    }

    private static void greaterNumbers() {
        Check.holds("Term 1", "All go to NODES of greater numbers");
        Check.fine(DELTA, "sea;fork to 2 and 2 and 2;sea;", 3);
        Check.fault(DELTA, "sea;fork to 1 and 2;sea;", 2, 12);
        Check.fault(DELTA, "sea;fork to 0 and 2;sea;", 2, 12);
        Check.fault(DELTA, "sea;fork to 2 and 1;sea;", 2, 18);
        Check.fault(DELTA, "sea;fork to 2 and 2 and 1;sea;", 2, 24);
        Check.fine(DELTA, "sea;town 1 needs 1 to 2;sea;", 3);
        Check.fault(DELTA, "sea;town 1 needs 1 to 1;sea;", 2, 22);
        Check.fault(DELTA, "sea;town 1 needs 1 to 0;sea;", 2, 22);
        String fourteen = "sea;".repeat(14);
        Check.fine(DELTA, fourteen + "fork to 15 and 15;sea;", 16);
        Check.fine(DELTA, fourteen + "town 1 needs 1 to 15;sea;", 16);
        Check.fault(DELTA, FIFTEEN_SEAS + "town 1 needs 1 to 16;", 2, 78);
        Check.fault(DELTA, FIFTEEN_SEAS + "town 1 needs 1 to 15;", 2, 78);
    }

    private static void severalGoToOne() {
        Check.holds("Term 1", "several may go to one");
        VotedRiver x = Check.river("fork to 1 and 2 and 3;town 1 needs 10 to 3;town 1 needs 20 to 3;sea;");
        x.set(1, 33);
        x.days(1);
        Check.due("of an arm, and of two towns", x.look(3), 33 + (34 - 10) + (33 - 20));
        VotedRiver all = Check.river("fork to 1 and 1 and 1;sea;");
        all.set(1, 33);
        all.days(1);
        Check.due("three arms to one", all.came(0, 1), 100);
    }

    private static void settingsAtFirst() {
        Check.holds("Term 1", "BASE (100 at first), TRICKLE (0 at first), DROUGHT, SPATE (0 each at first), DAY (0 at first)");
        VotedRiver x = new VotedRiver();
        int[] want = {100, 0, 0, 0};
        for (int what = 0; what < 4; what++) {
            Check.due("look(" + (10 + what) + ")", x.look(10 + what), want[what]);
        }
        Check.due("the day", x.look(1), 0);
        Check.holds("Terms", "STATE of draws (an int, 0 at first)");
        Check.due("look(5)", x.look(5), 0);
    }

    private static void forksAtFirst() {
        Check.holds("Term 1", "OPEN (ARM 0 alone at first), WON (0 at first), BOUGHT (0 at first)");
        VotedRiver x = Check.river("fork to 1 and 1 and 1;fork to 2 and 2;sea;");
        for (int fork = 0; fork < 2; fork++) {
            Check.due("open", x.fork(fork, 0), 1);
            Check.due("won", x.fork(fork, 1), 0);
            for (int arm = 0; arm < 3 - fork; arm++) {
                Check.due("bought for arm " + arm, x.fork(fork, 20 + arm), 0);
            }
        }
    }

    private static void townsAtFirst() {
        Check.holds("Term 1", "HEADS, GOT, DRY, DEFEATS, DAMS, STORE (0 each at first, but HEADS); WET or not (not at first)");
        VotedRiver x = Check.river("town 0 needs 1 to 1;town 999 needs 999 to 2;sea;");
        int[] want = {0, 1, 0, 0, 0, 0, 0, 0};
        for (int what = 0; what < 8; what++) {
            Check.due("of(0, " + what + ")", x.of(0, what), want[what]);
            Check.due("of(1, " + what + ")", x.of(1, what), what < 2 ? 999 : 0);
        }
    }

    private static void newObjectHasNothing() {
        Check.holds("Promise 1", "A sea alone");
        VotedRiver x = new VotedRiver();
        int[] want = {1, 0, 0, 0, 0, 0, 0, 0, 0, 0, 100, 0, 0, 0};
        for (int what = 0; what < 14; what++) {
            Check.due("look(" + what + ")", x.look(what), want[what]);
        }
        Check.due("node(0, 0)", x.node(0, 0), 2);
        Check.due("fork(0, 0)", x.fork(0, 0), NONE);
        Check.due("of(0, 0)", x.of(0, 0), NONE);
        Check.due("book(0, 0)", x.book(0, 0), NONE);
        Check.due("end(1)", x.end(1), false);
        Check.due("undo()", x.undo(), false);
        Check.due("image(false)", x.image(false), false);
        Check.due("best(0)", x.best(0), NONE);
        Check.due("most(0)", x.most(0), 0);
        Check.due("mud(0, 0)", x.mud(0, 0), 1);
    }

    private static void nodeOfNoNode() {
        Check.holds("Promise 12", "Of a NODE .. NONE if there is none such");
        VotedRiver x = Check.river("fork to 1 and 2;town 5 needs 5 to 2;sea;");
        for (int node : new int[] {-1, 3, 15, 16, Check.LOWEST, Check.HIGHEST}) {
            for (int what : new int[] {0, 1, 10}) {
                Check.due("node(" + node + ", " + what + ")", x.node(node, what), NONE);
            }
        }
        Check.due("the first", x.node(0, 0), 0);
        Check.due("the second", x.node(1, 0), 1);
        Check.due("the last", x.node(2, 0), 2);
    }

    private static void nodeOfAnotherWhat() {
        Check.holds("Promise 12", "what 0 its sort, 1 how many ARMS, 10 + a to which NODE ARM a goes .. NONE if another what");
        VotedRiver x = Check.river("fork to 1 and 2;fork to 2 and 3 and 4;town 5 needs 5 to 4;sea;sea;");
        int[] most = {11, 12, 10, 9, 9};
        int[][] to = {{1, 2}, {2, 3, 4}, {4}, {}, {}};
        for (int node = 0; node < 5; node++) {
            for (int what : new int[] {-1, 2, 9, most[node] + 1, 20, Check.LOWEST, Check.HIGHEST}) {
                Check.due("node(" + node + ", " + what + ")", x.node(node, what), NONE);
            }
            for (int arm = 0; arm < to[node].length; arm++) {
                Check.due("node(" + node + ", " + (10 + arm) + ")", x.node(node, 10 + arm), to[node][arm]);
            }
            Check.due("node(" + node + ", 1)", x.node(node, 1), to[node].length);
        }
    }
}

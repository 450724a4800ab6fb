/** Promises 2 to 6: the last value that is taken, and the first that is refused, at both ends. */
public final class EdgeToldTest {
    private static final int NONE = Check.NONE;
    private static final String SMALL =
            "fork to 1 and 2;town 30 needs 60 to 3;fork to 3 and 4 and 4;town 20 needs 40 to 4;sea;";
    private static final int[] NO_FORK = {-1, 1, 3, 4, 5, 15, 16, Check.LOWEST, Check.HIGHEST};
    private static final int[] NO_TOWN = {-1, 0, 2, 4, 5, 15, 16, Check.LOWEST, Check.HIGHEST};

    public static void main(String[] args) {
        stateTellsWhatItWas();
        settings();
        setOfAnotherWhat();
        setRefusedChangesNothing();
        heads();
        need();
        dams();
        store();
        fewerDams();
        townOfAnotherWhat();
        townOfNoTown();
        townRefusedChangesNothing();
        bought();
        boughtAnew();
        buyForNoArm();
        digTo();
        digFromNowOn();
        digNoArm();
        digRefusedChangesNothing();
        Check.finish();
    }

    private static void stateTellsWhatItWas() {
        Check.holds("Promise 2", "STATE is told: what it was");
        VotedRiver x = new VotedRiver();
        Check.due("state(highest)", x.state(Check.HIGHEST), 0);
        Check.due("state(lowest)", x.state(Check.LOWEST), Check.HIGHEST);
        Check.due("state(-1)", x.state(-1), Check.LOWEST);
        Check.due("look(5)", x.look(5), -1);
        Check.due("state(0)", x.state(0), -1);
        Check.due("look(5) at 0", x.look(5), 0);
    }

    private static void settings() {
        String[] range = {"BASE 0 .. 999", "TRICKLE 0 .. 33", "DROUGHT 0 .. 1000", "SPATE 0 .. 1000"};
        int[] most = {999, 33, 1000, 1000};
        for (int what = 0; what < 4; what++) {
            Check.holds("Promise 3", range[what]);
            VotedRiver x = new VotedRiver();
            Check.due("set to 1", x.set(what, 1), true);
            Check.due("set to 0", x.set(what, 0), true);
            Check.due("it is 0", x.look(10 + what), 0);
            Check.due("set to -1", x.set(what, -1), false);
            Check.due("set to the lowest", x.set(what, Check.LOWEST), false);
            Check.due("it stays 0", x.look(10 + what), 0);
            Check.due("set to the most", x.set(what, most[what]), true);
            Check.due("it is the most", x.look(10 + what), most[what]);
            Check.due("set to one more", x.set(what, most[what] + 1), false);
            Check.due("set to the highest", x.set(what, Check.HIGHEST), false);
            Check.due("it stays the most", x.look(10 + what), most[what]);
        }
        Check.holds("Promise 3", "DROUGHT, SPATE 0 .. 1000 (each)");
        VotedRiver both = new VotedRiver();
        Check.due("drought", both.set(2, 1000), true);
        Check.due("spate beside it", both.set(3, 1000), true);
    }

    private static void setOfAnotherWhat() {
        Check.holds("Promise 3", "false if .. another what");
        VotedRiver x = new VotedRiver();
        for (int what : new int[] {-1, 4, 5, 10, 13, Check.LOWEST, Check.HIGHEST}) {
            Check.due("set(" + what + ", 1)", x.set(what, 1), false);
        }
    }

    private static void setRefusedChangesNothing() {
        Check.holds("Promise 3", "false if one can't be");
        VotedRiver x = Check.river(SMALL);
        x.days(2);
        Sight before = Sight.of(x);
        x.set(0, 1000);
        x.set(1, 34);
        x.set(2, 1001);
        x.set(3, -1);
        x.set(4, 0);
        x.set(-1, 0);
        before.stays("set that is refused");
    }

    private static void town(VotedRiver x, int what, int v, boolean taken) {
        int before = x.of(1, what);
        Check.due("town(1, " + what + ", " + v + ")", x.town(1, what, v), taken);
        Check.due("of(1, " + what + ") then", x.of(1, what), taken ? v : before);
    }

    private static void heads() {
        Check.holds("Promise 4", "0 HEADS (0 .. 9999)");
        VotedRiver x = Check.river(SMALL);
        town(x, 0, 9999, true);
        town(x, 0, 10000, false);
        town(x, 0, Check.HIGHEST, false);
        town(x, 0, 1, true);
        town(x, 0, 0, true);
        town(x, 0, -1, false);
        town(x, 0, Check.LOWEST, false);
    }

    private static void need() {
        Check.holds("Promise 4", "1 NEED (1 .. 999)");
        VotedRiver x = Check.river(SMALL);
        town(x, 1, 999, true);
        town(x, 1, 1000, false);
        town(x, 1, Check.HIGHEST, false);
        town(x, 1, 1, true);
        town(x, 1, 0, false);
        town(x, 1, -1, false);
        town(x, 1, Check.LOWEST, false);
    }

    private static void dams() {
        Check.holds("Promise 4", "2 DAMS (0 .. 9)");
        VotedRiver x = Check.river(SMALL);
        town(x, 2, 9, true);
        town(x, 2, 10, false);
        town(x, 2, Check.HIGHEST, false);
        town(x, 2, 1, true);
        town(x, 2, 0, true);
        town(x, 2, -1, false);
        town(x, 2, Check.LOWEST, false);
    }

    private static void store() {
        Check.holds("Promise 4", "3 STORE (0 .. 50 for each DAM)");
        for (int dams : new int[] {0, 1, 2, 9}) {
            VotedRiver x = Check.river(SMALL);
            x.town(1, 2, dams);
            town(x, 3, 50 * dams, true);
            town(x, 3, 50 * dams + 1, false);
            town(x, 3, Check.HIGHEST, false);
            town(x, 3, 0, true);
            town(x, 3, -1, false);
            town(x, 3, Check.LOWEST, false);
        }
    }

    private static void fewerDams() {
        Check.holds("Promise 4", "Fewer DAMS: STORE is as much as it can be then");
        VotedRiver x = Check.river(SMALL);
        x.town(1, 2, 9);
        x.town(1, 3, 101);
        x.town(1, 2, 3);
        Check.due("what three hold stays", x.of(1, 3), 101);
        x.town(1, 2, 10);
        Check.due("a refused call leaves it", x.of(1, 3), 101);
        x.town(1, 2, 2);
        Check.due("what two hold at most", x.of(1, 3), 100);
        x.town(1, 2, 9);
        Check.due("more dams: it stays", x.of(1, 3), 100);
        x.town(1, 2, 2);
        Check.due("just what two hold stays", x.of(1, 3), 100);
        x.town(1, 2, 0);
        Check.due("without dams", x.of(1, 3), 0);
    }

    private static void townOfAnotherWhat() {
        Check.holds("Promise 4", "false if .. another what");
        VotedRiver x = Check.river(SMALL);
        for (int what : new int[] {-1, 4, 5, 6, 7, 8, 10, Check.LOWEST, Check.HIGHEST}) {
            Check.due("town(1, " + what + ", 1)", x.town(1, what, 1), false);
        }
    }

    private static void townOfNoTown() {
        Check.holds("Promise 4", "Of a TOWN .. false if one can't be");
        VotedRiver x = Check.river(SMALL);
        for (int node : NO_TOWN) {
            for (int what = 0; what < 4; what++) {
                Check.due("town(" + node + ", " + what + ", 1)", x.town(node, what, 1), false);
            }
        }
        Check.due("the first town", x.town(1, 0, 1), true);
        Check.due("the last town", x.town(3, 0, 1), true);
    }

    private static void townRefusedChangesNothing() {
        Check.holds("Promise 4", "false if one can't be");
        VotedRiver x = Check.river(SMALL);
        x.town(1, 2, 3);
        x.town(1, 3, 120);
        x.days(2);
        Sight before = Sight.of(x);
        x.town(1, 0, 10000);
        x.town(1, 1, 0);
        x.town(1, 2, -1);
        x.town(1, 3, 151);
        x.town(1, 4, 1);
        x.town(0, 0, 1);
        before.stays("town that is refused");
    }

    private static void bought() {
        Check.holds("Promise 5", "BOUGHT 0 .. 999 for each ARM");
        VotedRiver x = Check.river(SMALL);
        Check.due("buy 999", x.buy(2, 2, 999), true);
        Check.due("it is bought", x.fork(2, 22), 999);
        Check.due("buy 1000", x.buy(2, 2, 1000), false);
        Check.due("buy the highest", x.buy(2, 2, Check.HIGHEST), false);
        Check.due("buy -1", x.buy(2, 2, -1), false);
        Check.due("buy the lowest", x.buy(2, 2, Check.LOWEST), false);
        Check.due("it stays", x.fork(2, 22), 999);
        Check.due("for this arm alone", x.fork(2, 21), 0);
        Check.due("at this fork alone", x.fork(0, 21), 0);
    }

    private static void boughtAnew() {
        Check.holds("Promise 5", "VOTES are BOUGHT for an ARM (told anew)");
        VotedRiver x = Check.river(SMALL);
        x.buy(0, 1, 999);
        Check.due("one behind 999", x.buy(0, 1, 1), true);
        Check.due("not both together", x.fork(0, 21), 1);
        Check.due("none", x.buy(0, 1, 0), true);
        Check.due("none is bought", x.fork(0, 21), 0);
    }

    private static void buyForNoArm() {
        Check.holds("Promise 5", "false if one can't be");
        VotedRiver x = Check.river(SMALL);
        x.days(1);
        Sight before = Sight.of(x);
        for (int arm : new int[] {-1, 2, 3, Check.LOWEST, Check.HIGHEST}) {
            Check.due("arm " + arm + " of two", x.buy(0, arm, 1), false);
        }
        for (int arm : new int[] {-1, 3, 4, Check.LOWEST, Check.HIGHEST}) {
            Check.due("arm " + arm + " of three", x.buy(2, arm, 1), false);
        }
        for (int node : NO_FORK) {
            Check.due("buy(" + node + ", 0, 1)", x.buy(node, 0, 1), false);
        }
        before.stays("buy that is refused");
        Check.due("the last arm of two", x.buy(0, 1, 1), true);
        Check.due("the last arm of three", x.buy(2, 2, 1), true);
    }

    private static void digTo() {
        Check.holds("Promise 6", "An ARM goes to another NODE .. (not above the FORK, not there)");
        VotedRiver x = Check.river(SMALL);
        Check.due("to the next node", x.dig(2, 1, 3), true);
        Check.due("it goes there", x.node(2, 11), 3);
        Check.due("to the last node", x.dig(2, 0, 4), true);
        Check.due("the first arm goes there", x.node(2, 10), 4);
        Check.due("to the fork itself", x.dig(2, 0, 2), false);
        Check.due("to one above it", x.dig(2, 0, 1), false);
        Check.due("to the first node", x.dig(2, 0, 0), false);
        Check.due("behind the last node", x.dig(2, 0, 5), false);
        Check.due("to 15", x.dig(2, 0, 15), false);
        Check.due("to 16", x.dig(2, 0, 16), false);
        Check.due("to -1", x.dig(2, 0, -1), false);
        Check.due("to the lowest", x.dig(2, 0, Check.LOWEST), false);
        Check.due("to the highest", x.dig(2, 0, Check.HIGHEST), false);
        Check.due("it stays", x.node(2, 10), 4);
        Check.due("the first fork to itself", x.dig(0, 0, 0), false);
        VotedRiver full = Check.river("sea;".repeat(14) + "fork to 15 and 15;sea;");
        Check.due("the last fork to the last node", full.dig(14, 1, 15), true);
        Check.due("the last fork to none", full.dig(14, 1, 16), false);
        Check.due("the last fork to itself", full.dig(14, 1, 14), false);
    }

    private static void digFromNowOn() {
        Check.holds("Promise 6", "An ARM goes to another NODE from now on");
        VotedRiver x = Check.river(SMALL);
        x.days(1);
        Check.due("dig", x.dig(0, 0, 4), true);
        Check.due("what came before stays", x.came(0, 1), 100);
        Check.due("open stays", x.fork(0, 0), 1);
        x.days(1);
        Check.due("the water goes there", x.came(0, 4), 100);
        Check.due("no longer there", x.came(0, 1), 0);
        Check.due("nobody behind it votes", x.fork(0, 10), 0);
    }

    private static void digNoArm() {
        Check.holds("Promise 6", "false if one can't be");
        VotedRiver x = Check.river(SMALL);
        for (int arm : new int[] {-1, 2, 3, Check.LOWEST, Check.HIGHEST}) {
            Check.due("arm " + arm + " of two", x.dig(0, arm, 4), false);
        }
        for (int arm : new int[] {-1, 3, 4, Check.LOWEST, Check.HIGHEST}) {
            Check.due("arm " + arm + " of three", x.dig(2, arm, 4), false);
        }
        for (int node : NO_FORK) {
            Check.due("dig(" + node + ", 0, 4)", x.dig(node, 0, 4), false);
        }
        Check.due("a town's way stays", x.node(1, 10), 3);
        Check.due("the last arm of two", x.dig(0, 1, 4), true);
        Check.due("the last arm of three", x.dig(2, 2, 3), true);
    }

    private static void digRefusedChangesNothing() {
        Check.holds("Promise 6", "false if one can't be");
        VotedRiver x = Check.river(SMALL);
        x.days(2);
        Sight before = Sight.of(x);
        x.dig(2, 0, 2);
        x.dig(2, 0, 5);
        x.dig(2, 3, 4);
        x.dig(1, 0, 4);
        x.dig(NONE, 0, 4);
        before.stays("dig that is refused");
    }
}

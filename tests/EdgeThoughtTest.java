/** Term 4 (in thought) and promises 18 to 20: days that are thought, their first and last ones. */
public final class EdgeThoughtTest {
    private static final int NONE = Check.NONE;
    private static final String PAIR = "fork to 1 and 2;town 30 needs 60 to 3;town 20 needs 40 to 3;sea;";
    private static final int[] NO_TOWN = {-1, 0, 3, 4, 15, 16, Check.LOWEST, Check.HIGHEST};

    public static void main(String[] args) {
        laterByDays();
        laterIsWhatDaysBring();
        laterFromAllThatIs();
        laterOfAnotherWhat();
        laterOfNoTown();
        noDraws();
        nothingStays();
        endsFromNow();
        endsOfRounds();
        endsByTheLastDay();
        endsByAllThatIsTold();
        endsWhereTwoChange();
        endsOfAnotherWhat();
        thirstDays();
        thirstThatIsOver();
        thirstOfNoTown();
        Check.finish();
    }

    private static void laterByDays() {
        Check.holds("Promise 18", "LATER by n (0 .. 100) DAYS. NONE if one can't be");
        VotedRiver x = Check.river(PAIR);
        Check.due("by 0", x.later(0, 2, 5), 0);
        Check.due("by 1", x.later(1, 2, 5), 1);
        Check.due("by 99", x.later(99, 2, 5), 99);
        Check.due("by 100", x.later(100, 2, 5), 99);
        Check.due("by 79, dams", x.later(79, 2, 2), 7);
        Check.due("by 80, dams", x.later(80, 2, 2), 8);
        for (int n : new int[] {-1, 101, 102, Check.LOWEST, Check.HIGHEST}) {
            Check.due("by " + n, x.later(n, 2, 5), NONE);
        }
        VotedRiver y = draining(450);
        Check.due("the store by 99", y.later(99, 0, 3), 351);
        Check.due("the store by 100", y.later(100, 0, 3), 350);
    }

    private static void laterIsWhatDaysBring() {
        Check.holds("Promise 18", "LATER by n DAYS: what is told of a TOWN");
        for (int n : new int[] {0, 1, 2, 9, 10, 11, 100}) {
            VotedRiver x = Check.river(PAIR);
            x.set(1, 33);
            x.town(2, 2, 1);
            x.buy(0, 1, 11);
            int[] later = new int[16];
            for (int i = 0; i < 16; i++) {
                later[i] = x.later(n, 1 + i / 8, i % 8);
            }
            if (n > 0) {
                x.days(n);
            }
            for (int i = 0; i < 16; i++) {
                Check.due("of(" + (1 + i / 8) + ", " + i % 8 + ") behind " + n + " days", x.of(1 + i / 8, i % 8), later[i]);
            }
        }
    }

    private static void laterFromAllThatIs() {
        Check.holds("Term 4", "LATER by n DAYS (DEFEATS go on from what they are)");
        VotedRiver x = Check.river(PAIR);
        Check.tell(x, Check.MOVES, "move 0;");
        x.days(9);
        Check.due("defeats now", x.later(0, 2, 6), 9);
        Check.due("dams now", x.later(0, 2, 2), 0);
        Check.due("defeats by 1", x.later(1, 2, 6), 0);
        Check.due("dams by 1", x.later(1, 2, 2), 1);
        Check.due("defeats by 2", x.later(2, 2, 6), 1);
        Check.due("defeats by 11", x.later(11, 2, 6), 0);
        Check.due("dams by 11", x.later(11, 2, 2), 2);
        Check.due("dry by 1", x.later(1, 2, 5), 10);
        Check.due("defeats stay", x.of(2, 6), 9);
    }

    private static void laterOfAnotherWhat() {
        Check.holds("Promise 18", "what as of() 0 .. 7. NONE if another what");
        VotedRiver x = Check.river(PAIR);
        int[] want = {32, 60, 0, 0, 100, 0, 0, 1};
        for (int what = 0; what < 8; what++) {
            Check.due("later(1, 1, " + what + ")", x.later(1, 1, what), want[what]);
        }
        for (int what : new int[] {-1, 8, 9, Check.LOWEST, Check.HIGHEST}) {
            Check.due("later(0, 1, " + what + ")", x.later(0, 1, what), NONE);
            Check.due("later(1, 1, " + what + ")", x.later(1, 1, what), NONE);
        }
    }

    private static void laterOfNoTown() {
        Check.holds("Promise 18", "of a TOWN. NONE if one can't be");
        VotedRiver x = Check.river(PAIR);
        for (int node : NO_TOWN) {
            Check.due("later(0, " + node + ", 0)", x.later(0, node, 0), NONE);
            Check.due("later(1, " + node + ", 0)", x.later(1, node, 0), NONE);
        }
    }

    private static void noDraws() {
        Check.holds("Term 4", "no DRAWS: FLOW is BASE");
        int drawsZero = 0;
        while ((drawsZero * 1664525 + 1013904223 >>> 8) % 1000 != 0) {
            drawsZero++;
        }
        VotedRiver x = Check.river(PAIR);
        for (int what = 2; what < 4; what++) {
            x.set(2, what == 2 ? 1000 : 0);
            x.set(3, what == 3 ? 1000 : 0);
            x.state(drawsZero);
            Check.due("got, a day later", x.later(1, 1, 4), 100);
            Check.due("thirst", x.thirst(1), NONE);
            Check.due("the most", x.most(6), 60);
            Check.due("mud", x.mud(2, 0), 1);
            Check.due("the least", x.least(2, 0), 11);
            x.town(2, 0, 31);
            Check.due("the best", x.best(3), 31);
            x.town(2, 0, 20);
            Check.due("the state", x.look(5), drawsZero);
        }
    }

    private static void nothingStays() {
        Check.holds("Term 4", "nothing of it stays");
        VotedRiver x = Check.river(PAIR);
        x.set(2, 500);
        x.town(2, 2, 2);
        x.town(2, 3, 77);
        x.days(3);
        Sight before = Sight.of(x);
        x.later(100, 1, 0);
        x.ends(0);
        x.thirst(1);
        x.power(0, 1);
        x.fewest(0, 0);
        x.least(2, 0);
        x.best(0);
        x.most(6);
        x.mud(6, 0);
        x.twice(0);
        x.rows(1, 2, 3, 4);
        before.stays("thoughts");
        Check.due("three days can be undone", x.look(8), 3);
        x.later(101, 1, 0);
        x.later(-1, 1, 0);
        x.later(5, 1, 8);
        x.ends(2);
        x.thirst(0);
        x.power(0, 3);
        x.fewest(0, 2);
        x.least(2, 11);
        x.best(4);
        x.most(1);
        x.mud(2, 11);
        x.twice(1);
        x.rows(0, 0, 0, 0);
        before.stays("thoughts that can't be");
    }

    private static void endsFromNow() {
        Check.holds("Promise 19", "the first DAY from now (0: now)");
        VotedRiver x = new VotedRiver();
        Check.due("nothing changes: the earlier day", x.ends(0), 0);
        Check.due("nothing changes: the round", x.ends(1), 1);
        VotedRiver y = Check.river("fork to 1 and 1;sea;");
        Check.due("nobody votes: the earlier day", y.ends(0), 0);
        Check.due("nobody votes: the round", y.ends(1), 1);
        VotedRiver z = Check.river("town 5 needs 60 to 1;sea;");
        Check.due("got is 0 now: the earlier day", z.ends(0), 1);
        Check.due("got is 0 now: the round", z.ends(1), 1);
        z.days(1);
        Check.due("a day later", z.ends(0), 0);
    }

    private static void endsOfRounds() {
        Check.holds("Promise 19", "that earlier one, and how many DAYS the round has");
        VotedRiver x = Check.river(PAIR);
        Check.tell(x, Check.MOVES, "move 0;");
        Check.tell(x, Check.VOTES, "vote heads when dry>0;vote 0;");
        Check.due("by turns: the earlier day", x.ends(0), 1);
        Check.due("by turns: the round", x.ends(1), 2);
        Check.tell(x, Check.VOTES, "");
        Check.due("won, dry, dams at their most, defeats by tens: the earlier day", x.ends(0), 99);
        Check.due("won, dry, dams at their most, defeats by tens: the round", x.ends(1), 10);
        x.days(99);
        Check.due("from there: the earlier day", x.ends(0), 0);
        Check.due("from there: the round", x.ends(1), 10);
    }

    /** A store that gives one each day; then dry days are counted up to 99. */
    private static VotedRiver draining(int store) {
        VotedRiver x = Check.river("town 5 needs 101 to 1;sea;");
        x.town(0, 2, 9);
        x.town(0, 3, store);
        return x;
    }

    private static void endsByTheLastDay() {
        Check.holds("Promise 19", "(200 at most) .. NONE if there is none by then");
        VotedRiver early = draining(99);
        Check.due("by day 199", early.ends(0), 198);
        VotedRiver last = draining(100);
        Check.due("by day 200: the earlier day", last.ends(0), 199);
        Check.due("by day 200: the round", last.ends(1), 1);
        VotedRiver late = draining(101);
        Check.due("by day 201: the earlier day", late.ends(0), NONE);
        Check.due("by day 201: the round", late.ends(1), NONE);
        late.days(1);
        Check.due("a day later", late.ends(0), 199);
    }

    private static void endsByAllThatIsTold() {
        Check.holds("Promise 19", "all of FORKS and TOWNS that is told is as it was");
        VotedRiver x = Check.river("fork to 1 and 1;sea;");
        x.buy(0, 0, 1);
        x.buy(0, 1, 1);
        x.days(1);
        Check.due("nothing changes", x.ends(0), 0);
        x.buy(0, 0, 1);
        x.buy(0, 1, 1);
        Check.due("what is bought changes alone", x.ends(0), 1);
        x.days(1);
        x.buy(0, 1, 1);
        Check.due("open changes, too", x.ends(0), 1);
        VotedRiver won = Check.river("fork to 1 and 2;town 5 needs 1 to 2;sea;");
        won.days(100);
        Check.due("nothing changes where one has won 99 times", won.ends(0), 0);
        for (int arm = 0; arm < 2; arm++) {
            won.buy(0, arm, 1);
            Check.due("what is bought for arm " + arm + " changes alone", won.ends(0), 1);
            won.buy(0, arm, 0);
        }
        VotedRiver turn = Check.river("fork to 1 and 1;town 9 needs 1 to 2;sea;");
        Check.tell(turn, Check.VOTES, "vote 1 when arm=0 and day<2;vote 1 when arm=1 and day>1;vote 0;");
        turn.days(2);
        Check.due("open changes, then won up to 99", turn.ends(0), 99);
        VotedRiver got = Check.river("town 5 needs 60 to 1;sea;");
        got.days(1);
        got.set(0, 90);
        Check.due("got changes alone", got.ends(0), 1);
        got.set(0, 100);
        got.town(0, 2, 1);
        got.town(0, 3, 49);
        Check.due("the store changes alone", got.ends(0), 1);
        VotedRiver heads = Check.river("town 40 needs 100 to 1;town 5 needs 50 to 2;sea;");
        heads.days(100);
        heads.town(1, 0, 19);
        Check.tell(heads, Check.MOVES, "move 1 when heads>17;move 0;");
        Check.due("heads change alone", heads.ends(0), 2);
        VotedRiver dams = Check.river(PAIR);
        Check.tell(dams, Check.MOVES, "move 0;");
        dams.days(100);
        dams.town(2, 2, 0);
        Check.due("dams change by tens of days: the earlier day", dams.ends(0), 90);
        Check.due("dams change by tens of days: the round", dams.ends(1), 10);
    }

    /** What changes one against another is not as it was, though their sum be the same. */
    private static void endsWhereTwoChange() {
        Check.holds("Promise 19", "all of FORKS and TOWNS that is told is as it was");
        VotedRiver won = Check.river("fork to 1 and 1;sea;");
        won.buy(0, 0, 8);
        Check.due("won against what is bought", won.ends(0), 1);
        VotedRiver dry = Check.river("town 5 needs 60 to 1;sea;");
        dry.set(0, 50);
        dry.days(1);
        dry.set(0, 49);
        Check.due("dry against got", dry.ends(0), 98);
        VotedRiver wet = Check.river("town 5 needs 1 to 1;sea;");
        wet.set(0, 0);
        wet.town(0, 2, 1);
        wet.town(0, 3, 1);
        Check.due("wet against the store", wet.ends(0), 100);
        VotedRiver store = Check.river(PAIR);
        Check.tell(store, Check.MOVES, "move 0;");
        store.set(1, 33);
        store.days(100);
        store.town(2, 1, 49);
        store.town(2, 3, 450);
        store.days(1);
        Check.due("defeats against the store", store.ends(0), 126);
        Check.due("its round", store.ends(1), 10);
        VotedRiver got = Check.river(PAIR);
        Check.tell(got, Check.VOTES, "vote heads when need=60;vote 0;");
        Check.tell(got, Check.MOVES, "move 0;");
        got.set(1, 32);
        got.days(100);
        Check.due("nothing changes", got.ends(0), 0);
        got.set(1, 33);
        Check.tell(got, Check.MOVES, "move 1 when heads=20;move 0;");
        Check.due("heads against got", got.ends(0), 1);
    }

    private static void endsOfAnotherWhat() {
        Check.holds("Promise 19", "what 0 .. 1. NONE if .. another what");
        VotedRiver x = new VotedRiver();
        for (int what : new int[] {-1, 2, 3, Check.LOWEST, Check.HIGHEST}) {
            Check.due("ends(" + what + ")", x.ends(what), NONE);
        }
    }

    private static void thirstDays() {
        Check.holds("Promise 20", "behind how many DAYS (1 .. 100) it is not WET first; NONE if not by then");
        int[][] rows = {{0, 1}, {1, 2}, {98, 99}, {99, 100}, {100, NONE}, {101, NONE}};
        for (int[] row : rows) {
            Check.due("thirst with a store of " + row[0], draining(row[0]).thirst(0), row[1]);
        }
        VotedRiver x = draining(100);
        x.days(1);
        Check.due("a day later", x.thirst(0), 100);
        VotedRiver never = Check.river("town 5 needs 100 to 1;sea;");
        Check.due("never", never.thirst(0), NONE);
    }

    private static void thirstThatIsOver() {
        Check.holds("Promise 20", "behind how many DAYS (1 .. 100)");
        VotedRiver x = Check.river("town 5 needs 100 to 1;sea;");
        x.set(0, 99);
        x.days(3);
        Check.due("dry now, and dry on", x.thirst(0), 1);
        x.set(0, 100);
        Check.due("dry now, but not from tomorrow on", x.thirst(0), NONE);
    }

    private static void thirstOfNoTown() {
        Check.holds("Promise 20", "NONE .. if there is none such");
        VotedRiver x = Check.river(PAIR);
        for (int node : NO_TOWN) {
            Check.due("thirst(" + node + ")", x.thirst(node), NONE);
        }
        Check.due("a town that is dry", x.thirst(2), 1);
    }
}

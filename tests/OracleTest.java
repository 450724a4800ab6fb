import java.util.Random;

/** Runs of calls by chance (each run's seed is its number), each answer beside the plain one's. */
public final class OracleTest {
    private static final int RUNS = 600;
    // An object is used for at most 512 calls: the last hundred or so look at all that there is.
    private static final int CALLS = 385;
    private static final int LOOKS = 85;
    private static final int ASKED_AT_ONCE = 4;
    private static final int QUESTIONS = 17;
    private static final String[] VOTE_ASKS = {"heads", "dry", "got", "need", "far", "arm", "won", "twice", "day", "fork"};
    private static final String[] MOVE_ASKS = {"heads", "dry", "got", "need", "dams", "day", "town"};

    private final Random chance;
    private final VotedRiver river = new VotedRiver();
    private final Oracle oracle = new Oracle();
    private final String run;
    private int nodes = 1;
    private int calls = 0;

    private OracleTest(int seed) {
        chance = new Random(seed);
        run = "run " + seed + ": ";
    }

    public static void main(String[] args) {
        int runs = args.length > 0 ? Integer.parseInt(args[0]) : RUNS;
        for (int seed = 0; seed < runs; seed++) {
            OracleTest test = new OracleTest(seed);
            test.tell();
            while (test.calls < CALLS) {
                test.call(test.chance.nextInt(40));
            }
            test.lookAround();
            Check.due("calls of " + test.run + "512 at most", test.calls <= 512, true);
        }
        Check.finish();
    }

    private int pick(int n) {
        return chance.nextInt(n);
    }

    /** Mostly a number of a node, at times one that is not there. */
    private int anyNode() {
        int odd = pick(30);
        return odd == 0 ? -1 : odd == 1 ? nodes : odd == 2 ? chance.nextInt() : pick(nodes);
    }

    /** Mostly a node of this sort (0 a fork, 1 a town), at times any. */
    private int some(int sort) {
        for (int tries = pick(40); tries > 0; tries--) {
            int node = pick(nodes);
            if (oracle.node(node, 0) == sort) {
                return node;
            }
        }
        return anyNode();
    }

    private int any(int from, int to) {
        return pick(12) == 0 ? from - 1 + pick(to - from + 3) : from + pick(to - from + 1);
    }

    private void tell() {
        int n = 2 + pick(pick(3) == 0 ? 15 : 7);
        StringBuilder delta = new StringBuilder();
        for (int i = 0; i < n; i++) {
            int sort = i == n - 1 ? 2 : i == 0 ? pick(5) : pick(10);
            if (sort < 5 && sort != 2) {
                delta.append("fork to ").append(above(i, n)).append(" and ").append(above(i, n));
                delta.append(pick(2) == 0 ? ";" : " and " + above(i, n) + ";");
            } else if (sort == 2) {
                delta.append("sea;");
            } else {
                delta.append("town ").append(pick(60)).append(" needs ").append(1 + pick(40));
                delta.append(" to ").append(above(i, n)).append(";");
            }
        }
        if (delta.length() < 400) {
            tellBoth(0, delta.toString());
        }
        nodes = Math.max(1, oracle.look(0));
    }

    private int above(int node, int n) {
        int some = node + 1 + pick(Math.min(4, n - node - 1));
        return pick(150) == 0 ? pick(18) : some;
    }

    private void tellBoth(int k, String text) {
        String cut = pick(25) == 0 ? spoilt(text) : text;
        Check.feed(river, cut);
        calls += (cut.length() + 19) / 20 + 1;
        oracle.tape(cut);
        due("text(" + k + ") of «" + cut + "»", river.text(k), oracle.text(k));
        due("fault(0) of «" + cut + "»", river.fault(0), oracle.fault(0));
        due("fault(1) of «" + cut + "»", river.fault(1), oracle.fault(1));
    }

    private String spoilt(String text) {
        if (text.isEmpty()) {
            return text;
        }
        int at = pick(text.length());
        String signs = "; +-*/()<=>.9aA0\n";
        String sign = "" + signs.charAt(pick(signs.length()));
        return text.substring(0, at) + sign + text.substring(pick(2) == 0 ? at : at + 1);
    }

    private String law(String word, String[] asks) {
        StringBuilder law = new StringBuilder();
        for (int i = pick(4); i > 0; i--) {
            law.append(word).append(' ').append(sum(asks));
            law.append(pick(3) == 0 ? ";" : " when " + choice(asks, 3) + ";");
        }
        return law.length() <= 390 ? law.toString() : "";
    }

    private String sum(String[] asks) {
        String[] signs = {"+", "-", "*", " * ", "+", "-"};
        StringBuilder sum = new StringBuilder(unit(asks));
        for (int i = pick(4); i > 0; i--) {
            sum.append(pick(6) == 0 ? "/" + pick(12) : signs[pick(6)] + unit(asks));
        }
        return sum.toString();
    }

    private String unit(String[] asks) {
        return pick(3) == 0 ? "" + pick(pick(6) == 0 ? 12000 : 30) : asks[pick(asks.length)];
    }

    private String choice(String[] asks, int depth) {
        int kind = depth == 0 ? 5 : pick(8);
        switch (kind) {
            case 0:
                return "not " + choice(asks, depth - 1);
            case 1:
                return "(" + choice(asks, depth - 1) + ")";
            case 2:
                return choice(asks, depth - 1) + " and " + choice(asks, depth - 1);
            case 3:
                return choice(asks, depth - 1) + " or " + choice(asks, depth - 1);
            default:
                return sum(asks) + "<=>".charAt(pick(3)) + sum(asks);
        }
    }

    /** Each due answer is one call. */
    private void due(String call, long got, long want) {
        calls++;
        Check.due(run + call, got, want);
    }

    private void due(String call, boolean got, boolean want) {
        calls++;
        Check.due(run + call, got, want);
    }

    private void call(int kind) {
        if (kind < 12) {
            change(kind);
        } else if (kind < 20) {
            days();
        } else {
            for (int i = 0; i < ASKED_AT_ONCE; i++) {
                ask(pick(QUESTIONS));
            }
        }
    }

    private void days() {
        int n = pick(6) == 0 ? any(1, 100) : 1 + pick(4);
        due("days(" + n + ")", river.days(n), oracle.days(n));
    }

    private void change(int kind) {
        int fork = some(0);
        int town = some(1);
        int arm = any(0, 2);
        int what = any(0, 3);
        switch (kind) {
            case 0:
                due("state(" + what + ")", river.state(what), oracle.state(what));
                break;
            case 1: {
                int v = pick(3) == 0 ? any(0, 1000) : pick(300);
                due("set(" + what + ", " + v + ")", river.set(what, v), oracle.set(what, v));
                break;
            }
            case 2:
            case 3: {
                int v = pick(3) == 0 ? any(0, 9999) : any(0, 60);
                due("town(" + town + ", " + what + ", " + v + ")", river.town(town, what, v), oracle.town(town, what, v));
                break;
            }
            case 4:
            case 5: {
                int v = pick(3) == 0 ? any(0, 999) : any(0, 60);
                due("buy(" + fork + ", " + arm + ", " + v + ")", river.buy(fork, arm, v), oracle.buy(fork, arm, v));
                break;
            }
            case 6: {
                int to = anyNode();
                due("dig(" + fork + ", " + arm + ", " + to + ")", river.dig(fork, arm, to), oracle.dig(fork, arm, to));
                break;
            }
            case 7:
                tellBoth(1, law("vote", VOTE_ASKS));
                break;
            case 8:
                tellBoth(2, law("move", MOVE_ASKS));
                break;
            case 9:
                due("undo()", river.undo(), oracle.undo());
                break;
            case 10:
                due("image(" + what + ")", river.image(what == 0), oracle.image(what == 0));
                nodes = oracle.look(0);
                break;
            default:
                if (pick(8) == 0) {
                    tell();
                }
        }
    }

    private void ask(int question) {
        int fork = some(0);
        int town = some(1);
        int arm = any(0, 2);
        int n = any(0, pick(4) == 0 ? 100 : 9);
        int what = any(0, 8);
        int set = pick(4) == 0 ? chance.nextInt() : towns() & chance.nextInt();
        int f = pick(3) == 0 ? 0 : 10 + (pick(4) == 0 ? pick(17) : some(0));
        if (question < 8) {
            askThought(question, fork, town, arm, n, what, f);
        } else {
            askCounsel(question, fork, town, arm, n, what, f, set);
        }
    }

    private void askThought(int question, int fork, int town, int arm, int n, int what, int f) {
        switch (question) {
            case 0:
                due("thirst(" + town + ")", river.thirst(town), oracle.thirst(town));
                break;
            case 1:
                due("ends(" + arm + ")", river.ends(arm), oracle.ends(arm));
                break;
            case 2:
            case 3:
                due("later(" + n + ", " + town + ", " + what + ")", river.later(n, town, what), oracle.later(n, town, what));
                break;
            case 4:
                due("votes(" + town + ", " + fork + ", " + arm + ")", river.votes(town, fork, arm), oracle.votes(town, fork, arm));
                break;
            case 5:
                due("of(" + town + ", " + what + ")", river.of(town, what), oracle.of(town, what));
                break;
            case 6:
                due("rows", river.rows(what, n, arm, f), oracle.rows(what, n, arm, f));
                break;
            default:
                due("book(" + n + ", " + arm + ")", river.book(n, arm), oracle.book(n, arm));
        }
    }

    private void askCounsel(int question, int fork, int town, int arm, int n, int what, int f, int set) {
        switch (question) {
            case 8:
                due("power(" + fork + ", " + town + ")", river.power(fork, town), oracle.power(fork, town));
                break;
            case 9:
                due("fewest(" + fork + ", " + arm + ")", river.fewest(fork, arm), oracle.fewest(fork, arm));
                break;
            case 10:
            case 11:
                due("least(" + town + ", " + f + ")", river.least(town, f), oracle.least(town, f));
                break;
            case 12:
                due("best(" + what / 2 + ")", river.best(what / 2), oracle.best(what / 2));
                break;
            case 13:
                due("most(" + set + ")", river.most(set), oracle.most(set));
                break;
            case 14:
                due("mud(" + set + ", " + f + ")", river.mud(set, f), oracle.mud(set, f));
                break;
            case 15:
                set = wetNow();
                due("mud(" + set + ", " + f + ")", river.mud(set, f), oracle.mud(set, f));
                break;
            default:
                due("twice(" + fork + ")", river.twice(fork), oracle.twice(fork));
        }
    }

    private int towns() {
        int set = 0;
        for (int t = 0; t < nodes; t++) {
            set |= oracle.node(t, 0) == 1 ? 1 << t : 0;
        }
        return set;
    }

    private int wetNow() {
        int set = 0;
        for (int t = 0; t < nodes; t++) {
            set |= oracle.of(t, 7) == 1 ? 1 << t : 0;
        }
        return set;
    }

    private void lookAround() {
        for (int what = -1; what < 15; what++) {
            due("look(" + what + ")", river.look(what), oracle.look(what));
        }
        for (int i = 0; i < LOOKS / 5; i++) {
            int a = anyNode();
            int to = anyNode();
            int what = any(0, 25);
            int item = any(0, 8);
            due("node(" + a + ", " + what + ")", river.node(a, what), oracle.node(a, what));
            due("of(" + to + ", " + item + ")", river.of(to, item), oracle.of(to, item));
            due("came(" + a + ", " + to + ")", river.came(a, to), oracle.came(a, to));
            a = some(0);
            due("fork(" + a + ", " + what + ")", river.fork(a, what), oracle.fork(a, what));
            int line = any(0, Math.max(1, oracle.look(2)) - 1);
            due("book(" + line + ", " + item / 2 + ")", river.book(line, item / 2), oracle.book(line, item / 2));
        }
    }
}

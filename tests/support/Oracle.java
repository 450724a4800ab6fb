import java.util.ArrayList;
import java.util.Arrays;
import java.util.HashMap;
import java.util.List;
import java.util.Map;

/** The document once more, as plainly as can be, with objects made at will. */
final class Oracle {
    static final int NONE = -1;

    /** One node with all that is told of it. */
    private static final class Node {
        int sort;
        int[] to = {};
        int open = 1;
        int won;
        int[] bought = new int[3];
        int heads;
        int need;
        int got;
        int dry;
        int defeats;
        int dams;
        int store;
        boolean wet;

        Node copy() {
            Node n = new Node();
            n.sort = sort;
            n.to = to.clone();
            n.open = open;
            n.won = won;
            n.bought = bought.clone();
            n.heads = heads;
            n.need = need;
            n.got = got;
            n.dry = dry;
            n.defeats = defeats;
            n.dams = dams;
            n.store = store;
            n.wet = wet;
            return n;
        }

        String told() {
            return sort == 0 ? open + " " + won + " " + Arrays.toString(bought)
                    : heads + " " + got + " " + dry + " " + defeats + " " + dams + " " + store + " " + wet;
        }
    }

    private interface Amount {
        int of(Map<String, Integer> asked);
    }

    /** A line: an amount, and 1 or 0 by a condition. */
    private static final class Line {
        Amount amount;
        Amount when = asked -> 1;
    }

    private static final class Fault extends RuntimeException {
        private static final long serialVersionUID = 1;
        final int what;
        final int place;

        Fault(int what, int place) {
            this.what = what;
            this.place = place;
        }
    }

    private static final class World {
        List<Node> nodes = new ArrayList<>();
        List<Line> votes = new ArrayList<>();
        List<Line> moves = new ArrayList<>();
        List<int[]> book = new ArrayList<>();
        Map<Integer, Integer> came = new HashMap<>();
        int[] setting = {100, 0, 0, 0};
        int state;
        int day;
        int floods;
        int seas;

        World copy() {
            World w = new World();
            for (Node n : nodes) {
                w.nodes.add(n.copy());
            }
            w.votes = votes;
            w.moves = moves;
            w.book = new ArrayList<>(book);
            w.came = new HashMap<>(came);
            w.setting = setting.clone();
            w.state = state;
            w.day = day;
            w.floods = floods;
            w.seas = seas;
            return w;
        }
    }

    private World now = new World();
    private World image;
    private final List<World> past = new ArrayList<>();
    private String tape = "";
    private int fault;
    private int faultPlace = NONE;

    Oracle() {
        Node sea = new Node();
        sea.sort = 2;
        now.nodes.add(sea);
    }

    // ---- what is told

    int state(int v) {
        int before = now.state;
        now.state = v;
        past.clear();
        return before;
    }

    boolean set(int what, int v) {
        int[] most = {999, 33, 1000, 1000};
        if (what < 0 || what > 3 || v < 0 || v > most[what]) {
            return false;
        }
        now.setting[what] = v;
        past.clear();
        return true;
    }

    private Node at(int node, int sort) {
        return node < 0 || node >= now.nodes.size() || now.nodes.get(node).sort != sort ? null : now.nodes.get(node);
    }

    private boolean armThere(int fork, int arm) {
        Node f = at(fork, 0);
        return f != null && arm >= 0 && arm < f.to.length;
    }

    boolean town(int node, int what, int v) {
        Node t = at(node, 1);
        if (t == null || v < 0) {
            return false;
        }
        if (what == 0 && v <= 9999) {
            t.heads = v;
        } else if (what == 1 && v >= 1 && v <= 999) {
            t.need = v;
        } else if (what == 2 && v <= 9) {
            t.dams = v;
            t.store = Math.min(t.store, 50 * v);
        } else if (what == 3 && v <= 50 * t.dams) {
            t.store = v;
        } else {
            return false;
        }
        past.clear();
        return true;
    }

    boolean buy(int fork, int arm, int n) {
        if (!armThere(fork, arm) || n < 0 || n > 999) {
            return false;
        }
        now.nodes.get(fork).bought[arm] = n;
        past.clear();
        return true;
    }

    boolean dig(int fork, int arm, int to) {
        if (!armThere(fork, arm) || to <= fork || to >= now.nodes.size()) {
            return false;
        }
        now.nodes.get(fork).to[arm] = to;
        past.clear();
        return true;
    }

    /** The tape as a text; the program's is fed and ended by the test. */
    void tape(String text) {
        tape = text;
    }

    // ---- texts

    private final List<String> tokens = new ArrayList<>();
    private final List<Integer> places = new ArrayList<>();
    private int token;
    private int open;

    private void cut() {
        tokens.clear();
        places.clear();
        token = 0;
        open = 0;
        for (int i = 0; i < tape.length();) {
            char c = tape.charAt(i);
            int from = i;
            if (c == ' ' || c == '\n') {
                i++;
                continue;
            }
            String some = letter(c) ? "L" : digit(c) ? "D" : "";
            i++;
            while (i < tape.length() && (some.equals("L") && letter(tape.charAt(i))
                    || some.equals("D") && digit(tape.charAt(i)))) {
                i++;
            }
            tokens.add(tape.substring(from, i));
            places.add(from);
        }
        tokens.add("");
        places.add(tape.length());
    }

    private static boolean letter(char c) {
        return c >= 'a' && c <= 'z' || c >= 'A' && c <= 'Z';
    }

    private static boolean digit(char c) {
        return c >= '0' && c <= '9';
    }

    private String here() {
        return tokens.get(token);
    }

    private Fault wrong(int what) {
        return new Fault(what, places.get(token));
    }

    private void take(String want) {
        if (!here().equals(want)) {
            throw wrong(1);
        }
        token++;
    }

    private int number(int least, int most) {
        if (here().isEmpty() || !digit(here().charAt(0)) || here().length() > 4) {
            throw wrong(1);
        }
        int v = Integer.parseInt(here());
        if (v < least || v > most) {
            throw wrong(2);
        }
        token++;
        return v;
    }

    int text(int k) {
        fault = 0;
        faultPlace = NONE;
        int answer = NONE;
        try {
            cut();
            if (k == 0) {
                answer = delta();
            } else if (k == 1) {
                now.votes = law("vote", "heads dry got need far arm won twice day fork");
                answer = now.votes.size();
            } else if (k == 2) {
                now.moves = law("move", "heads dry got need dams day town");
                answer = now.moves.size();
            }
        } catch (Fault f) {
            fault = f.what;
            faultPlace = f.place;
        }
        tape = "";
        return answer;
    }

    private int delta() {
        List<Node> nodes = new ArrayList<>();
        while (!here().isEmpty()) {
            String sort = here();
            int kind = List.of("fork", "town", "sea").indexOf(sort);
            if (kind < 0) {
                throw wrong(1);
            }
            if (nodes.size() == 16) {
                throw wrong(3);
            }
            token++;
            Node n = new Node();
            n.sort = kind;
            int at = nodes.size();
            if (kind == 0) {
                take("to");
                int a = number(at + 1, 15);
                take("and");
                int b = number(at + 1, 15);
                n.to = new int[] {a, b};
                if (here().equals("and")) {
                    token++;
                    n.to = new int[] {a, b, number(at + 1, 15)};
                }
            } else if (kind == 1) {
                n.heads = number(0, 999);
                take("needs");
                n.need = number(1, 999);
                take("to");
                n.to = new int[] {number(at + 1, 15)};
            }
            take(";");
            nodes.add(n);
        }
        boolean whole = !nodes.isEmpty();
        for (Node n : nodes) {
            for (int to : n.to) {
                whole &= to < nodes.size();
            }
        }
        if (!whole) {
            throw wrong(4);
        }
        World w = new World();
        w.nodes = nodes;
        w.votes = now.votes;
        w.moves = now.moves;
        w.setting = now.setting;
        w.state = now.state;
        now = w;
        past.clear();
        return nodes.size();
    }

    private List<Line> law(String word, String asks) {
        List<String> known = List.of(asks.split(" "));
        List<Line> lines = new ArrayList<>();
        while (!here().isEmpty()) {
            if (!here().equals(word)) {
                throw wrong(1);
            }
            if (lines.size() == 16) {
                throw wrong(3);
            }
            token++;
            Line line = new Line();
            line.amount = sum(known);
            if (here().equals("when")) {
                token++;
                line.when = either(known);
            }
            take(";");
            lines.add(line);
        }
        return lines;
    }

    private Amount either(List<String> known) {
        Amount a = both(known);
        while (here().equals("or")) {
            token++;
            Amount left = a;
            Amount right = both(known);
            a = asked -> left.of(asked) + right.of(asked) > 0 ? 1 : 0;
        }
        return a;
    }

    private Amount both(List<String> known) {
        Amount a = one(known);
        while (here().equals("and")) {
            token++;
            Amount left = a;
            Amount right = one(known);
            a = asked -> left.of(asked) * right.of(asked);
        }
        return a;
    }

    private Amount one(List<String> known) {
        if (here().equals("(") || here().equals("not")) {
            boolean not = here().equals("not");
            if (open == 8) {
                throw wrong(3);
            }
            token++;
            open++;
            Amount a = not ? one(known) : either(known);
            if (!not) {
                take(")");
            }
            open--;
            return not ? asked -> 1 - a.of(asked) : a;
        }
        Amount left = sum(known);
        String sign = here();
        if (!sign.equals("<") && !sign.equals("=") && !sign.equals(">")) {
            throw wrong(1);
        }
        token++;
        Amount right = sum(known);
        return asked -> {
            int order = Integer.compare(left.of(asked), right.of(asked));
            return order == "<=>".indexOf(sign) - 1 ? 1 : 0;
        };
    }

    private Amount sum(List<String> known) {
        Amount a = product(known);
        while (here().equals("+") || here().equals("-")) {
            int by = here().equals("+") ? 1 : -1;
            token++;
            Amount left = a;
            Amount right = product(known);
            a = asked -> left.of(asked) + by * right.of(asked);
        }
        return a;
    }

    private Amount product(List<String> known) {
        Amount a = unit(known);
        while (here().equals("*") || here().equals("/")) {
            boolean part = here().equals("/");
            token++;
            Amount left = a;
            if (part) {
                int by = number(1, 9999);
                a = asked -> left.of(asked) / by;
            } else {
                Amount right = unit(known);
                a = asked -> left.of(asked) * right.of(asked);
            }
        }
        return a;
    }

    private Amount unit(List<String> known) {
        String word = here();
        if (known.contains(word)) {
            token++;
            return asked -> asked.get(word);
        }
        int v = number(0, 9999);
        return asked -> v;
    }

    int fault(int what) {
        return what == 0 ? fault : what == 1 ? faultPlace : NONE;
    }

    // ---- votes and days

    /** The fewest steps from a node to another one, by waves; NONE without a way. */
    private static int steps(World w, int from, int to) {
        List<Integer> wave = List.of(from);
        for (int far = 0; far < 17; far++) {
            if (wave.contains(to)) {
                return far;
            }
            List<Integer> next = new ArrayList<>();
            for (int node : wave) {
                for (int n : w.nodes.get(node).to) {
                    if (!next.contains(n)) {
                        next.add(n);
                    }
                }
            }
            wave = next;
        }
        return NONE;
    }

    private static boolean behind(World w, int fork, int arm, int node) {
        return steps(w, w.nodes.get(fork).to[arm], node) != NONE;
    }

    private static List<Integer> armsBefore(World w, int fork, int node) {
        List<Integer> arms = new ArrayList<>();
        for (int arm = 0; arm < w.nodes.get(fork).to.length; arm++) {
            if (behind(w, fork, arm, node)) {
                arms.add(arm);
            }
        }
        return arms;
    }

    private static int by(List<Line> law, Map<String, Integer> asked, int otherwise, int most) {
        for (Line line : law) {
            if (line.when.of(asked) != 0) {
                return Math.max(0, Math.min(most, line.amount.of(asked)));
            }
        }
        return otherwise;
    }

    private static Map<String, Integer> askedOf(World w, int town) {
        Node t = w.nodes.get(town);
        Map<String, Integer> asked = new HashMap<>();
        asked.put("heads", t.heads);
        asked.put("dry", t.dry);
        asked.put("got", t.got);
        asked.put("need", t.need);
        asked.put("day", w.day);
        asked.put("dams", t.dams);
        asked.put("town", town);
        return asked;
    }

    private static int votes(World w, int town, int fork, int arm) {
        if (!behind(w, fork, arm, town)) {
            return 0;
        }
        Node f = w.nodes.get(fork);
        int heads = w.nodes.get(town).heads;
        Map<String, Integer> asked = askedOf(w, town);
        asked.put("far", 1 + steps(w, f.to[arm], town));
        asked.put("arm", arm);
        asked.put("won", f.open == 1 << arm ? f.won : 0);
        asked.put("twice", armsBefore(w, fork, town).size() > 1 ? 1 : 0);
        asked.put("fork", fork);
        return by(w.votes, asked, heads, heads);
    }

    private static int allVotes(World w, int fork, int arm) {
        int sum = 0;
        for (int t = 0; t < w.nodes.size(); t++) {
            if (w.nodes.get(t).sort == 1) {
                sum += votes(w, t, fork, arm);
            }
        }
        return sum;
    }

    private static int movers(World w, int town) {
        Node t = w.nodes.get(town);
        return t.wet ? 0 : by(w.moves, askedOf(w, town), t.heads / 10, t.heads);
    }

    /** The water of a day; DRY is left to the caller. */
    private static void water(World w, int flow) {
        int[] comes = new int[16];
        comes[0] = flow;
        w.came.clear();
        for (int i = 0; i < w.nodes.size(); i++) {
            Node n = w.nodes.get(i);
            int left = comes[i];
            if (n.sort == 0) {
                int[] share = new int[n.to.length];
                for (int a = 0; a < n.to.length; a++) {
                    if ((n.open & 1 << a) == 0) {
                        share[a] = comes[i] * w.setting[1] / 100;
                        left -= share[a];
                    }
                }
                // One by one, as cards are dealt: alike parts, and the odd ones to the first.
                while (left > 0) {
                    for (int a = 0; a < n.to.length && left > 0; a++) {
                        if ((n.open & 1 << a) != 0) {
                            share[a]++;
                            left--;
                        }
                    }
                }
                for (int a = 0; a < n.to.length; a++) {
                    comes[n.to[a]] += share[a];
                    w.came.merge(i * 16 + n.to[a], share[a], Integer::sum);
                }
            } else if (n.sort == 1) {
                n.got = left;
                n.wet = left + n.store >= n.need;
                while (left > n.need && n.store < 50 * n.dams) {
                    n.store++;
                    left--;
                }
                int goes = Math.max(0, left - n.need);
                while (left < n.need && n.store > 0) {
                    n.store--;
                    left++;
                }
                comes[n.to[0]] += goes;
                w.came.merge(i * 16 + n.to[0], goes, Integer::sum);
            } else {
                w.seas += left;
            }
        }
    }

    private static int wouldOpen(World w, int fork, int[] strength) {
        int most = 0;
        for (int s : strength) {
            most = Math.max(most, s);
        }
        int set = 0;
        for (int a = 0; a < strength.length; a++) {
            set |= strength[a] == most ? 1 << a : 0;
        }
        return most == 0 ? w.nodes.get(fork).open : set;
    }

    private static int[] strengths(World w, int fork) {
        Node f = w.nodes.get(fork);
        int[] strength = new int[f.to.length];
        for (int a = 0; a < strength.length; a++) {
            strength[a] = allVotes(w, fork, a) + f.bought[a];
        }
        return strength;
    }

    private static void evening(World w, int fork) {
        Node f = w.nodes.get(fork);
        int[] strength = strengths(w, fork);
        int most = Arrays.stream(strength).max().getAsInt();
        int set = wouldOpen(w, fork, strength);
        List<Node> defeated = new ArrayList<>();
        for (int t = 0; t < w.nodes.size(); t++) {
            boolean voted = false;
            boolean gained = false;
            for (int a = 0; a < f.to.length && w.nodes.get(t).sort == 1; a++) {
                if (votes(w, t, fork, a) > 0) {
                    voted = true;
                    gained |= (set & 1 << a) != 0;
                }
            }
            if (voted && !gained) {
                defeated.add(w.nodes.get(t));
            }
        }
        if (most > 0) {
            boolean flood = Integer.bitCount(set) > 1;
            w.floods += flood ? 1 : 0;
            f.won = flood ? 0 : set == f.open ? Math.min(99, f.won + 1) : 1;
            f.open = set;
        }
        for (Node t : defeated) {
            t.defeats++;
            if (t.defeats == 10) {
                t.defeats = 0;
                t.dams = Math.min(9, t.dams + 1);
            }
        }
        f.bought = new int[3];
        if (w.book.size() < 150) {
            w.book.add(new int[] {w.day, fork, f.open, most});
        }
    }

    private static void day(World w, boolean draws) {
        int flow = w.setting[0];
        if (draws && w.setting[2] + w.setting[3] > 0) {
            w.state = w.state * 1664525 + 1013904223;
            int drawn = (int) ((w.state & 0xffffffffL) / 256 % 1000);
            flow = drawn < w.setting[2] ? flow / 2 : drawn < w.setting[2] + w.setting[3] ? 2 * flow : flow;
        }
        water(w, flow);
        for (Node n : w.nodes) {
            n.dry = n.sort != 1 || n.wet ? 0 : Math.min(99, n.dry + 1);
        }
        for (int f = 0; f < w.nodes.size(); f++) {
            if (w.nodes.get(f).sort == 0) {
                evening(w, f);
            }
        }
        Node goal = null;
        for (Node n : w.nodes) {
            if (n.sort == 1 && n.wet && (goal == null || n.got - n.need > goal.got - goal.need)) {
                goal = n;
            }
        }
        for (int t = 0; t < w.nodes.size() && goal != null; t++) {
            if (w.nodes.get(t).sort == 1) {
                int n = movers(w, t);
                w.nodes.get(t).heads -= n;
                goal.heads += n;
            }
        }
        w.day++;
    }

    int days(int n) {
        if (n < 1 || n > 100 || now.day + n > 9999) {
            return NONE;
        }
        int floods = now.floods;
        for (int i = 0; i < n; i++) {
            past.add(now.copy());
            if (past.size() > 5) {
                past.remove(0);
            }
            day(now, true);
        }
        return now.floods - floods;
    }

    // ---- what is asked

    int node(int node, int what) {
        if (node < 0 || node >= now.nodes.size()) {
            return NONE;
        }
        Node n = now.nodes.get(node);
        if (what == 0) {
            return n.sort;
        }
        return what == 1 ? n.to.length : what >= 10 && what < 10 + n.to.length ? n.to[what - 10] : NONE;
    }

    int fork(int node, int what) {
        Node f = at(node, 0);
        if (f == null) {
            return NONE;
        }
        for (int a = 0; a < f.to.length; a++) {
            if (what == 10 + a) {
                return allVotes(now, node, a);
            }
            if (what == 20 + a) {
                return f.bought[a];
            }
        }
        return what == 0 ? f.open : what == 1 ? f.won : NONE;
    }

    private static int ofTown(World w, int town, int what) {
        Node t = w.nodes.get(town);
        int[] all = {t.heads, t.need, t.dams, t.store, t.got, t.dry, t.defeats, t.wet ? 1 : 0, movers(w, town)};
        return all[what];
    }

    int of(int node, int what) {
        return at(node, 1) == null || what < 0 || what > 8 ? NONE : ofTown(now, node, what);
    }

    int votes(int town, int fork, int arm) {
        return at(town, 1) == null || !armThere(fork, arm) ? NONE : votes(now, town, fork, arm);
    }

    int came(int from, int to) {
        int n = now.nodes.size();
        return from < 0 || from >= n || to < 0 || to >= n ? NONE : now.came.getOrDefault(from * 16 + to, 0);
    }

    int book(int i, int what) {
        return i < 0 || i >= now.book.size() || what < 0 || what > 3 ? NONE : now.book.get(i)[what];
    }

    int later(int n, int node, int what) {
        if (n < 0 || n > 100 || at(node, 1) == null || what < 0 || what > 7) {
            return NONE;
        }
        World w = now.copy();
        for (int i = 0; i < n; i++) {
            day(w, false);
        }
        return ofTown(w, node, what);
    }

    int ends(int what) {
        World w = now.copy();
        List<String> seen = new ArrayList<>();
        for (int i = 0; i <= 200; i++) {
            StringBuilder told = new StringBuilder();
            for (Node n : w.nodes) {
                told.append(n.told()).append(';');
            }
            int early = seen.indexOf(told.toString());
            if (early >= 0) {
                return what == 0 ? early : what == 1 ? i - early : NONE;
            }
            seen.add(told.toString());
            day(w, false);
        }
        return NONE;
    }

    int thirst(int town) {
        if (at(town, 1) == null) {
            return NONE;
        }
        World w = now.copy();
        for (int i = 1; i <= 100; i++) {
            day(w, false);
            if (!w.nodes.get(town).wet) {
                return i;
            }
        }
        return NONE;
    }

    int power(int fork, int town) {
        if (at(fork, 0) == null || at(town, 1) == null || armsBefore(now, fork, town).isEmpty()
                || now.nodes.get(town).heads == 0) {
            return NONE;
        }
        List<Integer> others = new ArrayList<>();
        int all = now.nodes.get(town).heads;
        for (int t = 0; t < now.nodes.size(); t++) {
            Node n = now.nodes.get(t);
            if (t != town && n.sort == 1 && n.heads > 0 && !armsBefore(now, fork, t).isEmpty()) {
                others.add(n.heads);
                all += n.heads;
            }
        }
        return swings(others, 0, 0, now.nodes.get(town).heads, all);
    }

    private static int swings(List<Integer> others, int i, int sum, int own, int all) {
        if (i == others.size()) {
            return sum <= all / 2.0 && sum + own > all / 2.0 ? 1 : 0;
        }
        return swings(others, i + 1, sum, own, all) + swings(others, i + 1, sum + others.get(i), own, all);
    }

    int fewest(int fork, int arm) {
        if (!armThere(fork, arm)) {
            return NONE;
        }
        int towns = now.nodes.size();
        int best = NONE;
        int[] cast = new int[towns];
        int rival = 0;
        for (int a = 0; a < now.nodes.get(fork).to.length; a++) {
            rival = a == arm ? rival : Math.max(rival, allVotes(now, fork, a));
        }
        for (int t = 0; t < towns; t++) {
            cast[t] = now.nodes.get(t).sort == 1 ? votes(now, t, fork, arm) : 0;
        }
        for (int set = 0; set < 1 << towns; set++) {
            int sum = 0;
            for (int t = 0; t < towns; t++) {
                sum += (set >> t & 1) * cast[t];
            }
            if (sum > rival && (best == NONE || Integer.bitCount(set) < best)) {
                best = Integer.bitCount(set);
            }
        }
        return best;
    }

    private int leastAll;
    private int[] leastAt;

    int least(int town, int what) {
        if (at(town, 1) == null || what != 0 && (what < 10 || at(what - 10, 0) == null)) {
            return NONE;
        }
        leastAll = NONE;
        World w = now.copy();
        for (int f = 0; f < w.nodes.size(); f++) {
            if (w.nodes.get(f).sort == 0) {
                w.nodes.get(f).open = wouldOpen(now, f, strengths(now, f));
            }
        }
        ways(w, 0, town, new int[16]);
        return leastAll == NONE ? NONE : what == 0 ? leastAll : leastAt[what - 10];
    }

    private void ways(World w, int node, int goal, int[] paid) {
        Node n = w.nodes.get(node);
        if (node == goal) {
            World tried = w.copy();
            water(tried, w.setting[0]);
            int sum = Arrays.stream(paid).sum();
            if (tried.nodes.get(goal).wet && (leastAll == NONE || sum < leastAll)) {
                leastAll = sum;
                leastAt = paid.clone();
            }
        } else if (n.sort == 1) {
            ways(w, n.to[0], goal, paid);
        } else if (n.sort == 0) {
            int[] strength = strengths(now, node);
            for (int a = 0; a < n.to.length; a++) {
                int before = n.open;
                int more = 0;
                int[] raised = strength.clone();
                while (wouldOpen(now, node, raised) != 1 << a) {
                    more++;
                    raised[a]++;
                }
                n.open = 1 << a;
                paid[node] = more;
                ways(w, n.to[a], goal, paid);
                n.open = before;
                paid[node] = 0;
            }
        }
    }

    private static int wetHeads(World w) {
        World tried = w.copy();
        water(tried, w.setting[0]);
        int sum = 0;
        for (Node n : tried.nodes) {
            sum += n.sort == 1 && n.wet ? n.heads : 0;
        }
        return sum;
    }

    int best(int what) {
        int[] best = null;
        int most = wetHeads(now);
        for (int f = 0; f < now.nodes.size(); f++) {
            for (int a = 0; now.nodes.get(f).sort == 0 && a < now.nodes.get(f).to.length; a++) {
                for (int to = f + 1; to < now.nodes.size(); to++) {
                    World w = now.copy();
                    w.nodes.get(f).to[a] = to;
                    if (wetHeads(w) > most) {
                        most = wetHeads(w);
                        best = new int[] {f, a, to, most};
                    }
                }
            }
        }
        return best == null || what < 0 || what > 3 ? NONE : best[what];
    }

    private List<World> allWays() {
        List<World> ways = new ArrayList<>();
        ways.add(now);
        for (int f = 0; f < now.nodes.size(); f++) {
            if (now.nodes.get(f).sort == 0) {
                List<World> more = new ArrayList<>();
                for (World w : ways) {
                    for (int a = 0; a < now.nodes.get(f).to.length; a++) {
                        World v = w.copy();
                        v.nodes.get(f).open = 1 << a;
                        more.add(v);
                    }
                }
                ways = more;
            }
        }
        return ways;
    }

    private boolean weighable(int set) {
        int forks = 0;
        for (Node n : now.nodes) {
            forks += n.sort == 0 ? 1 : 0;
        }
        boolean towns = true;
        for (int t = 0; t < 32; t++) {
            towns &= (set >> t & 1) == 0 || at(t, 1) != null;
        }
        return towns && forks <= 7;
    }

    int most(int set) {
        if (!weighable(set)) {
            return NONE;
        }
        int most = 0;
        for (World w : allWays()) {
            World tried = w.copy();
            water(tried, w.setting[0]);
            int sum = 0;
            for (int t = 0; t < tried.nodes.size(); t++) {
                sum += (set >> t & 1) * Math.min(tried.nodes.get(t).got, tried.nodes.get(t).need);
            }
            most = Math.max(most, sum);
        }
        return most;
    }

    int mud(int set, int what) {
        if (!weighable(set) || what != 0 && (what < 10 || what > 25)) {
            return NONE;
        }
        int count = 0;
        World first = null;
        for (World w : allWays()) {
            World tried = w.copy();
            water(tried, w.setting[0]);
            int wet = 0;
            for (int t = 0; t < tried.nodes.size(); t++) {
                wet |= tried.nodes.get(t).sort == 1 && tried.nodes.get(t).wet ? 1 << t : 0;
            }
            if (wet == set) {
                first = first == null ? w : first;
                count++;
            }
        }
        if (what == 0) {
            return count;
        }
        boolean fork = first != null && at(what - 10, 0) != null;
        return fork ? Integer.numberOfTrailingZeros(first.nodes.get(what - 10).open) : NONE;
    }

    int twice(int fork) {
        if (at(fork, 0) == null) {
            return NONE;
        }
        int set = 0;
        for (int t = 0; t < now.nodes.size(); t++) {
            set |= now.nodes.get(t).sort == 1 && armsBefore(now, fork, t).size() > 1 ? 1 << t : 0;
        }
        return set;
    }

    int rows(int a, int b, int c, int day) {
        int[] d = {a, b, c};
        for (int x : d) {
            if (x < 0 || x > 99) {
                return NONE;
            }
        }
        int n = a + b + c;
        if (n < 1 || n > 99 || day < 0 || day >= n) {
            return NONE;
        }
        int[] has = new int[3];
        int last = 0;
        for (int i = 0; i <= day; i++) {
            last = 0;
            for (int x = 1; x < 3; x++) {
                last = d[x] * (i + 1) - n * has[x] > d[last] * (i + 1) - n * has[last] ? x : last;
            }
            has[last]++;
        }
        return last;
    }

    boolean undo() {
        if (past.isEmpty()) {
            return false;
        }
        World before = past.remove(past.size() - 1);
        before.votes = now.votes;
        before.moves = now.moves;
        now = before;
        return true;
    }

    boolean image(boolean taken) {
        if (taken) {
            image = now.copy();
            return true;
        }
        if (image == null) {
            return false;
        }
        now = image.copy();
        past.clear();
        return true;
    }

    int look(int what) {
        int heads = 0;
        for (Node n : now.nodes) {
            heads += n.heads;
        }
        int[] all = {now.nodes.size(), now.day, now.book.size(), now.seas, now.floods, now.state, now.votes.size(),
            now.moves.size(), past.size(), heads, now.setting[0], now.setting[1], now.setting[2], now.setting[3]};
        return what < 0 || what >= all.length ? NONE : all[what];
    }
}

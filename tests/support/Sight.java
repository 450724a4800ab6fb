import java.util.Arrays;
import java.util.List;

/** All that can be seen of a small river, so that "nothing changes" can be held. */
final class Sight {
    private static final int SHOWN = 6;

    private final VotedRiver river;
    private final String[] names = new String[400];
    private final int[] seen = new int[400];
    private int size = 0;

    private Sight(VotedRiver river) {
        this.river = river;
    }

    static Sight of(VotedRiver river) {
        Sight sight = new Sight(river);
        for (int what = 0; what < 14; what++) {
            sight.add("look(" + what + ")", river.look(what));
        }
        int nodes = Math.min(SHOWN, river.look(0));
        for (int node = 0; node < nodes; node++) {
            sight.addNode(node, nodes);
        }
        int last = river.look(2) - 1;
        for (int what = 0; what < 4; what++) {
            sight.add("book(0, " + what + ")", river.book(0, what));
            sight.add("book(last, " + what + ")", river.book(last, what));
        }
        return sight;
    }

    private void addNode(int node, int nodes) {
        int sort = river.node(node, 0);
        int arms = river.node(node, 1);
        add("node(" + node + ", 0)", sort);
        for (int arm = 0; arm < arms; arm++) {
            int what = 10 + arm;
            add("node(" + node + ", " + what + ")", river.node(node, what));
        }
        if (sort == 0) {
            addFork(node, arms);
        }
        for (int what = 0; what < 9 && sort == 1; what++) {
            add("of(" + node + ", " + what + ")", river.of(node, what));
        }
        for (int to = node + 1; to < nodes; to++) {
            add("came(" + node + ", " + to + ")", river.came(node, to));
        }
    }

    private void addFork(int fork, int arms) {
        addOfFork(fork, 0);
        addOfFork(fork, 1);
        for (int arm = 0; arm < arms; arm++) {
            addOfFork(fork, 10 + arm);
            addOfFork(fork, 20 + arm);
        }
    }

    private void addOfFork(int fork, int what) {
        add("fork(" + fork + ", " + what + ")", river.fork(fork, what));
    }

    private void add(String name, int answer) {
        names[size] = name;
        seen[size] = answer;
        size++;
    }

    /** What can be seen now must be what could be seen then. */
    void stays(String behind) {
        isOf(river, behind);
    }

    /** What can be seen of that river must be the same. */
    void isOf(VotedRiver other, String behind) {
        Sight now = of(other);
        Check.due("how much can be seen behind " + behind, now.size, size);
        for (int i = 0; i < size; i++) {
            Check.due(names[i] + " behind " + behind, now.seen[i], seen[i]);
        }
    }

    /** Of all that can be seen just the answers with these names must be others now. */
    void changed(String behind, String... others) {
        List<String> expected = Arrays.asList(others);
        Sight now = of(river);
        Check.due("how much can be seen behind " + behind, now.size, size);
        int found = 0;
        for (int i = 0; i < size; i++) {
            boolean other = expected.contains(names[i]);
            found += other ? 1 : 0;
            Check.due(names[i] + " is another one behind " + behind, now.seen[i] != seen[i], other);
        }
        Check.due("how many of these can be seen behind " + behind, found, others.length);
    }
}

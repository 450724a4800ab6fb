/** All that can be seen of a small river, so that "nothing changes" can be held. */
final class Sight {
    private static final int SHOWN = 6;

    private final VotedRiver river;
    private final int[] seen = new int[400];
    private int size = 0;

    private Sight(VotedRiver river) {
        this.river = river;
    }

    static Sight of(VotedRiver river) {
        Sight sight = new Sight(river);
        for (int what = 0; what < 14; what++) {
            sight.add(river.look(what));
        }
        int nodes = Math.min(SHOWN, river.look(0));
        for (int node = 0; node < nodes; node++) {
            sight.addNode(node, nodes);
        }
        int last = river.look(2) - 1;
        for (int what = 0; what < 4; what++) {
            sight.add(river.book(0, what));
            sight.add(river.book(last, what));
        }
        return sight;
    }

    private void addNode(int node, int nodes) {
        int sort = river.node(node, 0);
        int arms = river.node(node, 1);
        add(sort);
        for (int arm = 0; arm < arms; arm++) {
            add(river.node(node, 10 + arm));
        }
        if (sort == 0) {
            addFork(node, arms);
        }
        for (int what = 0; what < 9 && sort == 1; what++) {
            add(river.of(node, what));
        }
        for (int to = node + 1; to < nodes; to++) {
            add(river.came(node, to));
        }
    }

    private void addFork(int fork, int arms) {
        add(river.fork(fork, 0));
        add(river.fork(fork, 1));
        for (int arm = 0; arm < arms; arm++) {
            add(river.fork(fork, 10 + arm));
            add(river.fork(fork, 20 + arm));
        }
    }

    private void add(int answer) {
        seen[size] = answer;
        size++;
    }

    /** What can be seen now must be what could be seen then. */
    void stays(String behind) {
        isOf(river, behind);
    }

    /** What can be seen of that river must be the same. */
    void isOf(VotedRiver other, String behind) {
        Sight now = of(other);
        Check.due("how much can be seen behind " + behind, now.size, size);
        for (int i = 0; i < size; i++) {
            Check.due("answer " + i + " of all behind " + behind, now.seen[i], seen[i]);
        }
    }
}

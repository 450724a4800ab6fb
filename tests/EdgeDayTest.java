/** Draws and term 3 (a day): flow, forks, towns and seas at their edges. */
public final class EdgeDayTest {
    private static final String SEAS = "fork to 1 and 2 and 3;sea;sea;sea;";

    public static void main(String[] args) {
        flowIsBase();
        drawsWrap();
        drawOnlyIfNeeded();
        drawsForNothing();
        droughtsAndSpates();
        trickles();
        likeParts();
        likePartsOfTheRest();
        townJustWet();
        storeTakes();
        storeGives();
        dryDays();
        seas();
        Check.finish();
    }

    private static int flow(int base, int drought, int spate, int state) {
        VotedRiver x = new VotedRiver();
        x.set(0, base);
        x.set(2, drought);
        x.set(3, spate);
        x.state(state);
        x.days(1);
        return x.look(3);
    }

    private static void flowIsBase() {
        Check.holds("Term 3", "FLOW is BASE");
        for (int base : new int[] {0, 1, 2, 999}) {
            Check.due("flow of base " + base, flow(base, 0, 0, 5), base);
        }
        Check.holds("Term 3", "half of it (Quotients go downwards)");
        int[][] half = {{0, 0}, {1, 0}, {2, 1}, {3, 1}, {999, 499}};
        for (int[] pair : half) {
            Check.due("half of " + pair[0], flow(pair[0], 1000, 0, 5), pair[1]);
        }
        Check.holds("Term 3", "twice as much");
        for (int base : new int[] {0, 1, 999}) {
            Check.due("twice " + base, flow(base, 0, 1000, 5), 2 * base);
        }
    }

    private static long word(int state) {
        return (state * 1664525L + 1013904223L) & 0xffffffffL;
    }

    private static int drawn(int state) {
        return (int) ((word(state) >> 8) % 1000);
    }

    private static int stateThatDraws(int wanted, int from) {
        for (int state = from; state < from + 1000000; state++) {
            if (drawn(state) == wanted) {
                return state;
            }
        }
        return from;
    }

    private static void drawsWrap() {
        Check.holds("Terms", "it becomes 1664525 times itself + 1013904223 (ints, which wrap), then its highest 24 bits (without sign)");
        int above = 0;
        for (int state : new int[] {0, 1, -1, 1000, -1000, 123456789, -987654321, Check.HIGHEST, Check.LOWEST}) {
            VotedRiver x = new VotedRiver();
            x.set(3, 1);
            x.state(state);
            x.days(1);
            Check.due("state behind a draw from " + state, x.look(5), (int) word(state));
            above += word(state) > Check.HIGHEST ? 1 : 0;
            int drawn = drawn(state);
            Check.due("not below " + drawn, flow(100, drawn, 0, state), 100);
            Check.due("below one more than " + drawn, flow(100, drawn + 1, 0, state), 50);
        }
        Check.due("draws with the sign's bit set, and without", above > 1 && above < 8, true);
        VotedRiver x = new VotedRiver();
        x.set(2, 1);
        x.days(3);
        Check.due("one draw a day", x.look(5), (int) word((int) word((int) word(0))));
    }

    private static void drawOnlyIfNeeded() {
        Check.holds("Term 3", "if DROUGHT or SPATE are above 0, a DRAW of 1000");
        int[][] both = {{0, 0}, {1, 0}, {0, 1}, {1, 1}};
        for (int[] pair : both) {
            VotedRiver x = new VotedRiver();
            x.state(7);
            x.set(2, pair[0]);
            x.set(3, pair[1]);
            x.days(1);
            int due = pair[0] + pair[1] > 0 ? (int) word(7) : 7;
            Check.due("state with drought " + pair[0] + ", spate " + pair[1], x.look(5), due);
        }
    }

    private static void drawsForNothing() {
        Check.holds("Term 3", "if DROUGHT or SPATE are above 0, a DRAW of 1000 (each day, whatever BASE is)");
        VotedRiver x = new VotedRiver();
        x.state(7);
        x.set(0, 0);
        x.set(2, 1000);
        x.days(1);
        Check.due("one draw", x.look(5), (int) word(7));
        x.days(2);
        Check.due("three draws", x.look(5), (int) word((int) word((int) word(7))));
        Check.due("nothing came", x.look(3), 0);
        x.set(2, 0);
        x.days(1);
        Check.due("no draw more", x.look(5), (int) word((int) word((int) word(7))));
    }

    private static void droughtsAndSpates() {
        Check.holds("Term 3", "below DROUGHT half of it, else below DROUGHT and SPATE together twice as much");
        // What is drawn, DROUGHT, SPATE, and what flows of 100.
        int[][] rows = {{0, 1, 0, 50}, {0, 0, 1, 200}, {1, 1, 0, 100}, {1, 0, 1, 100}, {1, 1, 1, 200}, {2, 1, 1, 100},
            {299, 300, 250, 50}, {300, 300, 250, 200}, {549, 300, 250, 200}, {550, 300, 250, 100},
            {999, 999, 0, 100}, {999, 1000, 0, 50}, {999, 0, 999, 100}, {999, 0, 1000, 200}, {999, 999, 1, 200},
            {999, 1000, 1000, 50}, {0, 1000, 1000, 50}, {999, 500, 499, 100}, {999, 500, 500, 200}, {999, 998, 1000, 200}};
        for (int[] row : rows) {
            for (int from : new int[] {0, 1500000000}) {
                int state = stateThatDraws(row[0], from);
                String of = row[0] + " with drought " + row[1] + ", spate " + row[2];
                Check.due("flow by a draw of " + of, flow(100, row[1], row[2], state), row[3]);
            }
        }
    }

    private static void parts(VotedRiver x, int base, int one, int two, int three) {
        x.set(0, base);
        x.days(1);
        Check.due("arm 0 of " + base, x.came(0, 1), one);
        Check.due("arm 1 of " + base, x.came(0, 2), two);
        Check.due("arm 2 of " + base, x.came(0, 3), three);
    }

    private static void trickles() {
        Check.holds("Term 3", "TRICKLE of a hundred to each ARM that is not OPEN; the rest to those that are");
        VotedRiver x = Check.river(SEAS);
        parts(x, 999, 999, 0, 0);
        x.set(1, 33);
        parts(x, 0, 0, 0, 0);
        parts(x, 3, 3, 0, 0);
        parts(x, 4, 2, 1, 1);
        parts(x, 6, 4, 1, 1);
        parts(x, 7, 3, 2, 2);
        parts(x, 100, 34, 33, 33);
        parts(x, 999, 341, 329, 329);
        x.set(1, 1);
        parts(x, 99, 99, 0, 0);
        parts(x, 100, 98, 1, 1);
        x.set(1, 0);
        parts(x, 100, 100, 0, 0);
    }

    /** Opens arms by a vote that is bought; nobody lives there, so that they stay open. */
    private static VotedRiver opened(int arms) {
        VotedRiver x = Check.river(SEAS);
        for (int arm = 0; arm < 3; arm++) {
            x.buy(0, arm, arms >> arm & 1);
        }
        x.days(1);
        Check.due("open", x.fork(0, 0), arms);
        return x;
    }

    private static void likeParts() {
        Check.holds("Term 3", "the rest in like parts to those that are, what can't be parted one by one to the first of these");
        VotedRiver all = opened(7);
        all.set(1, 33);
        parts(all, 0, 0, 0, 0);
        parts(all, 1, 1, 0, 0);
        parts(all, 2, 1, 1, 0);
        parts(all, 3, 1, 1, 1);
        parts(all, 4, 2, 1, 1);
        parts(all, 5, 2, 2, 1);
        parts(all, 999, 333, 333, 333);
        parts(all, 998, 333, 333, 332);
    }

    private static void likePartsOfTheRest() {
        Check.holds("Term 3", "the rest in like parts .. to the first of these");
        VotedRiver last = opened(6);
        parts(last, 1, 0, 1, 0);
        parts(last, 2, 0, 1, 1);
        parts(last, 3, 0, 2, 1);
        last.set(1, 33);
        parts(last, 100, 33, 34, 33);
        parts(last, 101, 33, 34, 34);
        VotedRiver outer = opened(5);
        parts(outer, 3, 2, 0, 1);
        VotedRiver one = opened(4);
        one.set(1, 33);
        parts(one, 100, 33, 33, 34);
    }

    /** A town that needs 60; what it is behind a day of so much water. */
    private static void serve(int dams, int store, int base, int wet, int then, int goesOn) {
        VotedRiver x = Check.river("town 5 needs 60 to 1;sea;");
        x.town(0, 2, dams);
        x.town(0, 3, store);
        x.set(0, base);
        x.days(1);
        String of = base + " with store " + store + " of " + dams + " dams";
        Check.due("got of " + of, x.of(0, 4), base);
        Check.due("wet by " + of, x.of(0, 7), wet);
        Check.due("dry by " + of, x.of(0, 5), 1 - wet);
        Check.due("store behind " + of, x.of(0, 3), then);
        Check.due("what goes on of " + of, x.came(0, 1), goesOn);
    }

    private static void townJustWet() {
        Check.holds("Term 3", "WET, if GOT and what STORE gave are NEED at least; the rest goes on");
        serve(0, 0, 0, 0, 0, 0);
        serve(0, 0, 59, 0, 0, 0);
        serve(0, 0, 60, 1, 0, 0);
        serve(0, 0, 61, 1, 0, 1);
        serve(0, 0, 999, 1, 0, 939);
    }

    private static void storeTakes() {
        Check.holds("Term 3", "of what is more than NEED STORE takes as much as it can (50 for each DAM in all), the rest goes on");
        serve(1, 0, 60, 1, 0, 0);
        serve(1, 0, 61, 1, 1, 0);
        serve(1, 0, 109, 1, 49, 0);
        serve(1, 0, 110, 1, 50, 0);
        serve(1, 0, 111, 1, 50, 1);
        serve(1, 49, 61, 1, 50, 0);
        serve(1, 49, 62, 1, 50, 1);
        serve(1, 50, 61, 1, 50, 1);
        serve(9, 0, 510, 1, 450, 0);
        serve(9, 0, 511, 1, 450, 1);
        serve(9, 449, 62, 1, 450, 1);
    }

    private static void storeGives() {
        Check.holds("Term 3", "of what is less STORE gives as much as it has");
        serve(1, 10, 50, 1, 0, 0);
        serve(1, 10, 49, 0, 0, 0);
        serve(1, 10, 51, 1, 1, 0);
        serve(1, 1, 59, 1, 0, 0);
        serve(1, 0, 59, 0, 0, 0);
        serve(1, 50, 10, 1, 0, 0);
        serve(1, 50, 9, 0, 0, 0);
        serve(2, 60, 0, 1, 0, 0);
        serve(2, 59, 0, 0, 0, 0);
        serve(9, 450, 0, 1, 390, 0);
    }

    private static void dryDays() {
        Check.holds("Term 3", "else DRY is one more (99 at most); WET: DRY 0");
        VotedRiver x = Check.river("town 5 needs 60 to 1;sea;");
        x.set(0, 59);
        x.days(98);
        Check.due("98 days", x.of(0, 5), 98);
        x.days(1);
        Check.due("99 days", x.of(0, 5), 99);
        x.days(1);
        Check.due("100 days", x.of(0, 5), 99);
        x.set(0, 60);
        x.days(1);
        Check.due("wet", x.of(0, 5), 0);
        x.days(1);
        Check.due("wet again", x.of(0, 5), 0);
        x.set(0, 59);
        x.days(1);
        Check.due("dry again", x.of(0, 5), 1);
    }

    private static void seas() {
        Check.holds("Term 3", "A SEA takes it: all that came to SEAS");
        VotedRiver x = Check.river("fork to 1 and 2;sea;town 5 needs 10 to 3;sea;");
        x.set(1, 33);
        Check.due("at first", x.look(3), 0);
        x.days(1);
        Check.due("of both seas", x.look(3), 67 + 23);
        x.days(2);
        Check.due("of all days", x.look(3), 3 * 90);
        VotedRiver none = Check.river("town 5 needs 100 to 1;sea;");
        none.days(1);
        Check.due("nothing comes", none.look(3), 0);
    }
}

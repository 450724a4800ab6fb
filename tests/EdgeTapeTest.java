/** Promises 7 to 10: the tape's first and last bytes, texts that are told or refused, the latest fault. */
public final class EdgeTapeTest {
    private static final int NONE = Check.NONE;
    private static final int BLANKS = 0x20202020;
    private static final String TWO = "fork to 1 and 2;town 30 needs 60 to 3;town 20 needs 40 to 3;sea;";

    public static void main(String[] args) {
        twentyBytes();
        highestFirst();
        highBytes();
        fourHundred();
        notMoreThanFourHundred();
        refusedFeedBringsNothing();
        endOfAnEmptyTape();
        endOfATape();
        endOfAFullTape();
        endRefusedChangesNothing();
        bytesComeBehindTheEnd();
        textsThatThereAre();
        tapeIsEmptyThen();
        wholeTapeIsRead();
        howManyNodesOrLines();
        textStaysBehindAFault();
        deltaTellsAllAnew();
        deltaLeavesTheRest();
        faultAtFirst();
        faultOfTheLatest();
        faultOfAnotherWhat();
        Check.finish();
    }

    private static VotedRiver blanks(int feeds) {
        VotedRiver x = new VotedRiver();
        for (int i = 1; i <= feeds; i++) {
            Check.due("feed " + i, x.feed(BLANKS, BLANKS, BLANKS, BLANKS, BLANKS), 20 * i);
        }
        return x;
    }

    private static void twentyBytes() {
        Check.holds("Promise 7", "Twenty bytes come behind the TAPE: how many it has");
        VotedRiver x = new VotedRiver();
        Check.due("end(1) of none", x.end(1), false);
        Check.due("the first feed", x.feed(0, 0, 0, 0, 0), 20);
        Check.due("end(21)", x.end(21), false);
        Check.due("end(20)", x.end(20), true);
        Check.due("the second feed", x.feed(-1, -1, -1, -1, -1), 40);
        Check.due("end(41)", x.end(41), false);
        Check.due("end(40)", x.end(40), true);
    }

    private static int word(String four) {
        return four.charAt(0) << 24 | four.charAt(1) << 16 | four.charAt(2) << 8 | four.charAt(3);
    }

    private static void highestFirst() {
        Check.holds("Promise 7", "of each number the highest first");
        VotedRiver x = new VotedRiver();
        x.feed(word("town"), word(" 7 n"), word("eeds"), word(" 12 "), word("to 1"));
        x.feed(word(";sea"), word(";   "), BLANKS, BLANKS, BLANKS);
        Check.due("text(0)", x.text(0), 2);
        Check.due("the heads", x.of(0, 0), 7);
        Check.due("the need", x.of(0, 1), 12);
    }

    private static void highBytes() {
        Check.holds("Promise 7", "bytes (above 127 too)");
        for (int place = 0; place < 20; place++) {
            int[] words = {BLANKS, BLANKS, BLANKS, BLANKS, BLANKS};
            words[place / 4] |= 0x80 << 24 - place % 4 * 8;
            VotedRiver x = new VotedRiver();
            x.feed(words[0], words[1], words[2], words[3], words[4]);
            Check.due("text(1)", x.text(1), NONE);
            Check.due("the place of the one that is no token", x.fault(1), place);
        }
    }

    private static void fourHundred() {
        Check.holds("Promise 7", "NONE .. if there would be more than 400");
        VotedRiver x = blanks(20);
        Check.due("behind 400", x.feed(BLANKS, BLANKS, BLANKS, BLANKS, BLANKS), NONE);
        Check.due("behind 400 once more", x.feed(0, 0, 0, 0, 0), NONE);
    }

    private static void notMoreThanFourHundred() {
        Check.holds("Promise 7", "NONE .. if there would be more than 400");
        for (int length : new int[] {399, 382, 381, 380, 379}) {
            VotedRiver x = blanks(20);
            x.end(length);
            int due = length <= 380 ? length + 20 : NONE;
            Check.due("feed behind " + length, x.feed(BLANKS, BLANKS, BLANKS, BLANKS, BLANKS), due);
        }
    }

    private static void refusedFeedBringsNothing() {
        Check.holds("Promise 7", "NONE, and nothing comes");
        VotedRiver x = blanks(20);
        x.end(381);
        Check.due("feed", x.feed(-1, -1, -1, -1, -1), NONE);
        Check.due("end(382)", x.end(382), false);
        Check.due("end(381)", x.end(381), true);
        Check.due("what was there is blank still", x.text(1), 0);
        VotedRiver full = blanks(20);
        Check.due("feed behind 400", full.feed(-1, -1, -1, -1, -1), NONE);
        Check.due("end(401)", full.end(401), false);
        Check.due("what was there is blank still", full.text(1), 0);
    }

    private static void endOfAnEmptyTape() {
        Check.holds("Promise 8", "false .. if it has not so many, or n is below 0 (nothing there)");
        VotedRiver x = new VotedRiver();
        Check.due("end(0)", x.end(0), true);
        Check.due("end(1)", x.end(1), false);
        Check.due("end(-1)", x.end(-1), false);
        Check.due("end(lowest)", x.end(Check.LOWEST), false);
        Check.due("end(highest)", x.end(Check.HIGHEST), false);
    }

    private static void endOfATape() {
        Check.holds("Promise 8", "The TAPE has its first n bytes alone");
        VotedRiver x = blanks(1);
        Check.due("end(20)", x.end(20), true);
        Check.due("end(19)", x.end(19), true);
        Check.due("end(20) then", x.end(20), false);
        Check.due("end(1)", x.end(1), true);
        Check.due("end(2) then", x.end(2), false);
        Check.due("end(0)", x.end(0), true);
        Check.due("end(1) then", x.end(1), false);
        x.feed(word("sea;"), word("sea;"), word("sea;"), word("sea;"), word("sea;"));
        x.end(12);
        Check.due("the first three of five", x.text(0), 3);
    }

    private static void endOfAFullTape() {
        Check.holds("Promise 8", "if it has not so many (all places full)");
        VotedRiver x = blanks(20);
        Check.due("end(401)", x.end(401), false);
        Check.due("end(400)", x.end(400), true);
        Check.due("end(399)", x.end(399), true);
        Check.due("end(400) then", x.end(400), false);
    }

    private static void endRefusedChangesNothing() {
        Check.holds("Promise 8", "false, changing nothing");
        VotedRiver x = new VotedRiver();
        x.feed(word("sea;"), word("sea;"), word("sea;"), word("sea;"), word("sea;"));
        x.end(16);
        for (int n : new int[] {-1, 17, 20, 400, Check.LOWEST, Check.HIGHEST}) {
            Check.due("end(" + n + ")", x.end(n), false);
            Check.due("end(16) behind it", x.end(16), true);
        }
        Check.due("four seas", x.text(0), 4);
    }

    private static void bytesComeBehindTheEnd() {
        Check.holds("Promise 7", "bytes come behind the TAPE");
        VotedRiver x = new VotedRiver();
        x.feed(word("sea "), -1, -1, -1, -1);
        x.end(3);
        Check.due("feed behind three", x.feed(word(";   "), BLANKS, BLANKS, BLANKS, BLANKS), 23);
        Check.due("text(0)", x.text(0), 1);
    }

    private static void textsThatThereAre() {
        Check.holds("Promise 9", "NONE: no such one (fault() tells 0)");
        VotedRiver x = new VotedRiver();
        for (int k : new int[] {-1, 3, 4, Check.LOWEST, Check.HIGHEST}) {
            Check.due("a fault before", Check.tell(x, Check.DELTA, "lake"), NONE);
            Check.due("it is told", x.fault(0), 1);
            x.feed(BLANKS, BLANKS, BLANKS, BLANKS, BLANKS);
            Check.due("text(" + k + ")", x.text(k), NONE);
            Check.due("fault(0)", x.fault(0), 0);
            Check.due("fault(1)", x.fault(1), NONE);
            Check.due("the tape is empty", x.end(1), false);
        }
        Check.due("text 0, the first", Check.tell(x, 0, "sea;"), 1);
        Check.due("text 2, the last", Check.tell(x, 2, "move 1;"), 1);
    }

    private static void tapeIsEmptyThen() {
        Check.holds("Promise 9", "The TAPE, empty then (the TAPE is empty in each case)");
        VotedRiver x = new VotedRiver();
        String[] good = {"sea;", "vote 1;", "move 1;"};
        for (int k = 0; k < 3; k++) {
            Check.due("text(" + k + ")", Check.tell(x, k, good[k]), 1);
            Check.due("end(1) behind it", x.end(1), false);
            Check.due("text(" + k + ") that is refused", Check.tell(x, k, good[k] + "!"), NONE);
            Check.due("end(1) behind its fault", x.end(1), false);
        }
        Check.due("no text: no node", x.text(0), NONE);
        Check.due("its fault", x.fault(0), 4);
    }

    private static void wholeTapeIsRead() {
        Check.holds("Promise 9", "The TAPE .. is TEXT k (400 bytes)");
        String law = " ".repeat(393) + "vote 7;";
        Check.fine(Check.VOTES, law, 1);
        Check.fault(Check.VOTES, " ".repeat(394) + "vote 7", 1, 400);
        Check.fault(Check.VOTES, " ".repeat(399) + "!", 1, 399);
        Check.fault(Check.DELTA, "\n".repeat(400), 4, 400);
        Check.fine(Check.DELTA, "sea;" + " ".repeat(396), 1);
        Check.fine(Check.DELTA, " ".repeat(396) + "sea;", 1);
    }

    private static void howManyNodesOrLines() {
        Check.holds("Promise 9", "how many NODES, lines");
        Check.fine(Check.DELTA, "sea;", 1);
        Check.fine(Check.DELTA, "sea;".repeat(16), 16);
        Check.fine(Check.VOTES, "", 0);
        Check.fine(Check.VOTES, "vote 1;".repeat(16), 16);
        Check.fine(Check.MOVES, "", 0);
        Check.fine(Check.MOVES, "move 1;".repeat(16), 16);
    }

    private static void textStaysBehindAFault() {
        Check.holds("Promise 9", "a FAULT (the TEXT stays as it was)");
        VotedRiver x = Check.river(TWO);
        Check.tell(x, Check.VOTES, "vote 7;vote 6;");
        Check.tell(x, Check.MOVES, "move 3;");
        x.days(2);
        Sight before = Sight.of(x);
        String[] wrong = {"sea;sea;sea;sea;sea;!", "vote 1;vote 2;vote 3;!", "move 1;move 2;!"};
        for (int k = 0; k < 3; k++) {
            Check.due("a fault at the end of text " + k, Check.tell(x, k, wrong[k]), NONE);
            Check.due("its place", x.fault(1), wrong[k].length() - 1);
        }
        before.stays("faults in each text");
        Check.due("votes stay", x.votes(1, 0, 0), 7);
        x.town(1, 1, 999);
        x.days(1);
        Check.due("moves stay", x.of(1, 8), 3);
    }

    private static void deltaTellsAllAnew() {
        Check.holds("Term 2", "Told: all is as at first but it");
        VotedRiver x = Check.river(TWO);
        x.days(3);
        x.town(2, 0, x.of(1, 0));
        x.town(1, 2, 3);
        Check.due("a flood", x.days(1), 1);
        x.days(2);
        x.dig(0, 1, 3);
        x.buy(0, 1, 9);
        Check.due("told anew", Check.tell(x, Check.DELTA, TWO), 4);
        Sight.of(Check.river(TWO)).isOf(x, "a delta told anew");
        int[] none = {1, 2, 3, 4, 8};
        for (int what : none) {
            Check.due("look(" + what + ")", x.look(what), 0);
        }
        Check.due("the dug arm", x.node(0, 11), 2);
        Check.due("open", x.fork(0, 0), 1);
        Check.due("won", x.fork(0, 1), 0);
        Check.due("bought", x.fork(0, 21), 0);
        Check.due("came", x.came(0, 1), 0);
        Check.due("book", x.book(0, 0), NONE);
        for (int what = 2; what < 8; what++) {
            Check.due("of(1, " + what + ")", x.of(1, what), 0);
        }
        Check.due("undo", x.undo(), false);
        Check.due("told by another one", Check.tell(x, Check.DELTA, "sea;sea;sea;sea;"), 4);
        Check.due("no heads of the one before", x.look(9), 0);
    }

    private static void deltaLeavesTheRest() {
        Check.holds("Term 2", "but it, both LAWS, STATE, BASE, TRICKLE, DROUGHT, SPATE, the TAPE, fault() and THE IMAGE");
        VotedRiver x = Check.river(TWO);
        Check.tell(x, Check.VOTES, "vote 7;vote 8;");
        Check.tell(x, Check.MOVES, "move 3;");
        x.image(true);
        x.state(77);
        x.set(0, 55);
        x.set(1, 11);
        x.set(2, 12);
        x.set(3, 13);
        Check.due("told anew", Check.tell(x, Check.DELTA, TWO), 4);
        int[] what = {5, 6, 7, 10, 11, 12, 13};
        int[] want = {77, 2, 1, 55, 11, 12, 13};
        for (int i = 0; i < what.length; i++) {
            Check.due("look(" + what[i] + ")", x.look(what[i]), want[i]);
        }
        Check.due("votes", x.votes(1, 0, 0), 7);
        Check.due("moves", x.of(1, 8), 3);
        Check.due("the image", x.image(false), true);
        Check.due("its base", x.look(10), 100);
    }

    private static void faultAtFirst() {
        Check.holds("Promise 10", "0 the FAULT (0 without one), 1 its place (NONE)");
        VotedRiver x = new VotedRiver();
        Check.due("fault(0) at first", x.fault(0), 0);
        Check.due("fault(1) at first", x.fault(1), NONE);
        Check.tell(x, Check.VOTES, "vote 1;");
        Check.due("fault(0) behind a text", x.fault(0), 0);
        Check.due("fault(1) behind a text", x.fault(1), NONE);
    }

    private static void faultOfTheLatest() {
        Check.holds("Promise 10", "Of the latest text()");
        VotedRiver x = new VotedRiver();
        String[] wrong = {"!", "sea;town 1000", "sea;".repeat(16) + "sea", "fork to 1 and 9;sea;"};
        int[] place = {0, 9, 64, 20};
        for (int i = 0; i < 4; i++) {
            Check.tell(x, Check.DELTA, wrong[i]);
            Check.due("fault(0)", x.fault(0), i + 1);
            Check.due("fault(1)", x.fault(1), place[i]);
            x.days(1);
            x.feed(0, 0, 0, 0, 0);
            x.end(0);
            Check.due("fault(0) stays", x.fault(0), i + 1);
            Check.due("fault(1) stays", x.fault(1), place[i]);
        }
        Check.tell(x, Check.VOTES, "");
        Check.due("fault(0) behind an empty law", x.fault(0), 0);
        Check.due("fault(1) behind an empty law", x.fault(1), NONE);
    }

    private static void faultOfAnotherWhat() {
        Check.holds("Promise 10", "NONE for another what");
        VotedRiver x = new VotedRiver();
        for (String text : new String[] {"sea;", "lake"}) {
            Check.tell(x, Check.DELTA, text);
            for (int what : new int[] {-1, 2, 3, Check.LOWEST, Check.HIGHEST}) {
                Check.due("fault(" + what + ")", x.fault(what), NONE);
            }
        }
    }
}

/** Promises 6 to 10: the tape, the three texts and their faults. */
public final class TextTest {
    private static final int DELTA = Check.DELTA;
    private static final int VOTES = Check.VOTES;
    private static final int MOVES = Check.MOVES;

    public static void main(String[] args) {
        tape();
        tapeIsFull();
        anotherText();
        goodDeltas();
        wrongSignsInADelta();
        numbersInADelta();
        tooManyNodes();
        deltasThatAreNotWhole();
        goodLaws();
        wrongSignsInALaw();
        partsByZero();
        tooMany();
        theFirstFaultCounts();
        faultLeavesTheText();
        tellingKeepsAndForgets();
        Check.finish();
    }

    private static void tape() {
        VotedRiver x = new VotedRiver();
        Check.due("end(0)", x.end(0), true);
        Check.due("end(1) of an empty tape", x.end(1), false);
        Check.due("feed", x.feed(0x7365613b, 0, 0, 0, 0), 20);
        Check.due("end(-1)", x.end(-1), false);
        Check.due("end(21)", x.end(21), false);
        Check.due("end(20)", x.end(20), true);
        Check.due("end(4)", x.end(4), true);
        Check.due("end(5) behind end(4)", x.end(5), false);
        Check.due("text(0) of sea;", x.text(0), 1);
        Check.due("the tape is empty", x.end(1), false);
        x.feed(0x73656120, 0x20202020, 0x20202020, 0x20202020, 0x20202020);
        x.end(3);
        Check.due("bytes come behind", x.feed(0x3b0a2020, 0x20202020, 0x20202020, 0x20202020, 0x20202020), 23);
        Check.due("text of what was joined", x.text(0), 1);
        x.feed(0x8065613b, 0, 0, 0, 0);
        Check.due("a byte above 127", x.text(0), -1);
        Check.due("its fault", x.fault(0), 1);
        Check.due("its place", x.fault(1), 0);
    }

    private static void tapeIsFull() {
        VotedRiver x = new VotedRiver();
        for (int i = 1; i <= 20; i++) {
            Check.due("feed " + i, x.feed(0x20202020, 0x20202020, 0x20202020, 0x20202020, 0x20202020), 20 * i);
        }
        Check.due("feed 21", x.feed(0, 0, 0, 0, 0), -1);
        Check.due("it has 400", x.end(401), false);
        Check.due("end(381)", x.end(381), true);
        Check.due("feed above 400", x.feed(0, 0, 0, 0, 0), -1);
        Check.due("end(380)", x.end(380), true);
        Check.due("feed to 400", x.feed(0x20202020, 0x20202020, 0x20202020, 0x20202020, 0x20202020), 400);
        Check.due("400 blanks are a law", x.text(1), 0);
    }

    private static void anotherText() {
        VotedRiver x = new VotedRiver();
        Check.due("fault(0) at first", x.fault(0), 0);
        Check.due("fault(1) at first", x.fault(1), -1);
        Check.due("no nodes", Check.tell(x, DELTA, "lake;"), -1);
        for (int k : new int[] {-1, 3, 4, Integer.MIN_VALUE, Integer.MAX_VALUE}) {
            x.feed(1, 2, 3, 4, 5);
            Check.due("text(" + k + ")", x.text(k), -1);
            Check.due("fault(0) then", x.fault(0), 0);
            Check.due("fault(1) then", x.fault(1), -1);
            Check.due("the tape then", x.end(1), false);
        }
        Check.due("fault(2)", x.fault(2), -1);
        Check.due("fault(-1)", x.fault(-1), -1);
    }

    private static void goodDeltas() {
        Check.fine(DELTA, "sea;", 1);
        Check.fine(DELTA, " \n sea \n ; \n ", 1);
        Check.fine(DELTA, "fork to 1 and 2 and 3;sea;sea;sea;", 4);
        Check.fine(DELTA, "fork to1and1and1;sea;", 2);
        Check.fine(DELTA, "town 0 needs 1 to 1;sea;", 2);
        Check.fine(DELTA, "town 999 needs 999 to 0001;sea;", 2);
        Check.fine(DELTA, "sea;sea;sea;sea;sea;sea;sea;sea;sea;sea;sea;sea;sea;sea;sea;sea;", 16);
        Check.fine(DELTA, "fork to 15 and 15;sea;sea;sea;sea;sea;sea;sea;sea;sea;sea;sea;sea;sea;sea;sea;", 16);
    }

    private static void wrongSignsInADelta() {
        Check.fault(DELTA, "seas;", 1, 0);
        Check.fault(DELTA, "Sea;", 1, 0);
        for (String letter : new String[] {"a", "z", "A", "Z", "m"}) {
            Check.fault(DELTA, "sea" + letter + ";", 1, 0);
            Check.fault(DELTA, "sea;" + letter + "sea;", 1, 4);
        }
        for (String none : new String[] {"@", "[", "`", "{", ".", "!", "/", ":", "\0", "\177", "\344", "\377"}) {
            Check.fault(DELTA, "sea" + none + ";", 1, 3);
        }
        Check.fault(DELTA, "sea\t;", 1, 3);
        Check.fault(DELTA, "sea\r;", 1, 3);
        Check.fault(DELTA, "sea;;", 1, 4);
        Check.fault(DELTA, "sea", 1, 3);
        Check.fault(DELTA, "sea  ", 1, 5);
        Check.fault(DELTA, "to;", 1, 0);
        Check.fault(DELTA, "7;", 1, 0);
        Check.fault(DELTA, "fork 1 and 2;", 1, 5);
        Check.fault(DELTA, "fork to 1;sea;", 1, 9);
        Check.fault(DELTA, "fork to 1 2;", 1, 10);
        Check.fault(DELTA, "fork to 1 and sea;", 1, 14);
        Check.fault(DELTA, "fork to 1 and 1 and 1 and 1;sea;", 1, 22);
        Check.fault(DELTA, "fork to 1 and 1 and;sea;", 1, 19);
        Check.fault(DELTA, "town needs 1 to 1;", 1, 5);
        Check.fault(DELTA, "town 5 to 1;", 1, 7);
        Check.fault(DELTA, "town 5 needs to 1;", 1, 13);
        Check.fault(DELTA, "town 5 needs 5 1;", 1, 15);
        Check.fault(DELTA, "town 5 needs 5 to;", 1, 17);
        Check.fault(DELTA, "town 00005 needs 5 to 1;sea;", 1, 5);
        Check.fault(DELTA, "town -5 needs 5 to 1;sea;", 1, 5);
    }

    private static void numbersInADelta() {
        Check.fault(DELTA, "town 1000 needs 5 to 1;sea;", 2, 5);
        Check.fault(DELTA, "town 9999 needs", 2, 5);
        Check.fault(DELTA, "town 5 needs 0 to 1;sea;", 2, 13);
        Check.fault(DELTA, "town 5 needs 1000 to 1;sea;", 2, 13);
        Check.fault(DELTA, "town 5 needs 5 to 0;sea;", 2, 18);
        Check.fault(DELTA, "town 5 needs 5 to 16;sea;", 2, 18);
        Check.fault(DELTA, "sea;town 5 needs 5 to 1;sea;", 2, 22);
        Check.fault(DELTA, "fork to 1 and 0;sea;", 2, 14);
        Check.fault(DELTA, "fork to 1 and 1 and 16;sea;", 2, 20);
    }

    private static void tooManyNodes() {
        String sixteen = "sea;sea;sea;sea;sea;sea;sea;sea;sea;sea;sea;sea;sea;sea;sea;sea;";
        Check.fault(DELTA, sixteen + "sea;", 3, 64);
        Check.fault(DELTA, sixteen + " fork", 3, 65);
        Check.fault(DELTA, sixteen + " town", 3, 65);
        Check.fault(DELTA, sixteen + " lake", 1, 65);
        Check.fault(DELTA, sixteen + "to", 1, 64);
        Check.fault(DELTA, sixteen + ";", 1, 64);
    }

    private static void deltasThatAreNotWhole() {
        Check.fault(DELTA, "", 4, 0);
        Check.fault(DELTA, " \n ", 4, 3);
        Check.fault(DELTA, "fork to 1 and 2;sea;", 4, 20);
        Check.fault(DELTA, "fork to 2 and 1;sea; ", 4, 21);
        Check.fault(DELTA, "fork to 1 and 1 and 15;sea;", 4, 27);
        Check.fault(DELTA, "town 1 needs 1 to 1;", 4, 20);
        Check.fault(DELTA, "town 1 needs 1 to 1;s", 1, 20);
    }

    private static void goodLaws() {
        Check.fine(VOTES, "", 0);
        Check.fine(VOTES, "  \n", 0);
        Check.fine(VOTES, "vote heads+dry-got*need/7+far+arm+won+twice+day+fork;", 1);
        Check.fine(VOTES, "vote 1 when 1=1;vote 2;vote 3 when(not(1<2)or 2>1 and 3=3);", 3);
        Check.fine(MOVES, "move heads+dry-got*need/3+dams+day+town;", 1);
        Check.fine(MOVES, "move 9999 when heads/9999*7/1=0000;", 1);
        Check.fine(VOTES, "vote 1 when ((((((((1=1))))))));", 1);
        Check.fine(VOTES, "vote 1 when not not not not not not not not 1=1;", 1);
        Check.fine(VOTES, "vote 1 when not(not(not(not(1=1))))and not(not(not(not(1=1))));", 1);
        Check.fine(MOVES, "move 1;move 1;move 1;move 1;move 1;move 1;move 1;move 1;"
                + "move 1;move 1;move 1;move 1;move 1;move 1;move 1;move 1;", 16);
    }

    private static void wrongSignsInALaw() {
        Check.fault(VOTES, "move 1;", 1, 0);
        Check.fault(MOVES, "vote 1;", 1, 0);
        Check.fault(VOTES, "vote;", 1, 4);
        Check.fault(VOTES, "vote -1;", 1, 5);
        Check.fault(VOTES, "vote (1);", 1, 5);
        Check.fault(VOTES, "vote 1", 1, 6);
        Check.fault(VOTES, "vote 1 2;", 1, 7);
        Check.fault(VOTES, "vote 1+;", 1, 7);
        Check.fault(VOTES, "vote 1+*2;", 1, 7);
        Check.fault(VOTES, "vote heads/got;", 1, 11);
        Check.fault(VOTES, "vote heads/;", 1, 11);
        Check.fault(VOTES, "vote dams;", 1, 5);
        Check.fault(VOTES, "vote town;", 1, 5);
        Check.fault(VOTES, "vote when;", 1, 5);
        Check.fault(MOVES, "move far;", 1, 5);
        Check.fault(MOVES, "move won;", 1, 5);
        Check.fault(MOVES, "move fork;", 1, 5);
        Check.fault(MOVES, "move twice;", 1, 5);
        Check.fault(VOTES, "vote 12345;", 1, 5);
        Check.fault(VOTES, "vote 1 when;", 1, 11);
        Check.fault(VOTES, "vote 1 when 1;", 1, 13);
        Check.fault(VOTES, "vote 1 when 1=;", 1, 14);
        Check.fault(VOTES, "vote 1 when 1=1=1;", 1, 15);
        Check.fault(VOTES, "vote 1 when 1=1 or;", 1, 18);
        Check.fault(VOTES, "vote 1 when and 1=1;", 1, 12);
        Check.fault(VOTES, "vote 1 when (1=1;", 1, 16);
        Check.fault(VOTES, "vote 1 when 1=1);", 1, 15);
        Check.fault(VOTES, "vote 1 when ();", 1, 13);
        Check.fault(VOTES, "vote 1 when (1+1)=2;", 1, 16);
        Check.fault(VOTES, "vote 1 when not;", 1, 15);
        Check.fault(VOTES, "vote 1 when 1<=1;", 1, 14);
        Check.fault(VOTES, "vote 1 when 1=1 when 1=1;", 1, 16);
        Check.fault(VOTES, "vote headsdry;", 1, 5);
        Check.fault(VOTES, "vote Heads;", 1, 5);
        Check.fault(VOTES, "vote 1!;", 1, 6);
    }

    private static void partsByZero() {
        Check.fault(VOTES, "vote 1/0;", 2, 7);
        Check.fault(VOTES, "vote 1*2/0000;", 2, 9);
        Check.fault(MOVES, "move 1 when heads/1=got/0;", 2, 24);
        Check.fault(VOTES, "vote 1/00000;", 1, 7);
    }

    private static void tooMany() {
        String line = "vote 1;";
        StringBuilder sixteen = new StringBuilder();
        for (int i = 0; i < 16; i++) {
            sixteen.append(line);
        }
        Check.fine(VOTES, sixteen.toString(), 16);
        Check.fault(VOTES, sixteen + "vote 1;", 3, 112);
        Check.fault(VOTES, sixteen + "  vote", 3, 114);
        Check.fault(VOTES, sixteen + "when", 1, 112);
        Check.fault(VOTES, "vote 1 when (((((((((1=1)))))))));", 3, 20);
        Check.fault(VOTES, "vote 1 when ((((not not not not not 1=1))));", 3, 32);
        Check.fault(VOTES, "vote 1 when not not not not ((((not 1=1))));", 3, 32);
        Check.fault(MOVES, "move 1 when not not not not not not not not (1=1);", 3, 44);
    }

    private static void theFirstFaultCounts() {
        Check.fault(DELTA, "town 1000 needs 0 to 77;lake", 2, 5);
        Check.fault(DELTA, "fork to 5 and 0", 2, 14);
        Check.fault(DELTA, "fork to 5 und 0", 1, 10);
        Check.fault(VOTES, "vote 1/0 when (", 2, 7);
        Check.fault(VOTES, "vote 1+ /0", 1, 8);
    }

    private static void faultLeavesTheText() {
        VotedRiver x = Check.river("fork to 1 and 2;town 30 needs 60 to 3;town 20 needs 40 to 3;sea;");
        Check.due("a law", Check.tell(x, VOTES, "vote 7;"), 1);
        Check.due("a law of moves", Check.tell(x, MOVES, "move 3;move 4;"), 2);
        x.days(2);
        Check.due("a wrong law", Check.tell(x, VOTES, "vote 1;vote 2;vote"), -1);
        Check.due("a wrong law of moves", Check.tell(x, MOVES, "move 1;vote"), -1);
        Check.due("a wrong delta", Check.tell(x, DELTA, "sea;sea;sea;sea;sea"), -1);
        Check.due("lines of votes", x.look(6), 1);
        Check.due("lines of moves", x.look(7), 2);
        Check.due("votes stay", x.votes(1, 0, 0), 7);
        Check.due("moves stay", x.of(1, 8), 3);
        Check.due("nodes stay", x.look(0), 4);
        Check.due("the day stays", x.look(1), 2);
        Check.due("what can be undone stays", x.look(8), 2);
        Check.due("an empty law", Check.tell(x, VOTES, ""), 0);
        Check.due("votes then", x.votes(2, 0, 1), x.of(2, 0));
        Check.due("no lines", x.look(6), 0);
    }

    private static void tellingKeepsAndForgets() {
        String delta = "fork to 1 and 2;town 30 needs 60 to 3;town 20 needs 40 to 3;sea;";
        VotedRiver x = Check.river(delta);
        Check.tell(x, VOTES, "vote 7;");
        Check.tell(x, MOVES, "move 3;");
        x.state(77);
        x.set(0, 55);
        x.set(1, 11);
        x.set(2, 12);
        x.set(3, 13);
        x.image(true);
        x.days(3);
        x.buy(0, 1, 5);
        x.dig(0, 1, 3);
        int state = x.look(5);
        x.feed(0x20202020, 0x20202020, 0x20202020, 0x20202020, 0x20202020);
        x.end(0);
        Check.due("told anew", Check.tell(x, DELTA, delta), 4);
        int[] want = {4, 0, 0, 0, 0, state, 1, 1, 0, 50, 55, 11, 12, 13};
        for (int what = 0; what < want.length; what++) {
            Check.due("look(" + what + ") behind a delta", x.look(what), want[what]);
        }
        Check.due("open", x.fork(0, 0), 1);
        Check.due("won", x.fork(0, 1), 0);
        Check.due("bought", x.fork(0, 21), 0);
        Check.due("the arm", x.node(0, 11), 2);
        Check.due("got", x.of(1, 4), 0);
        Check.due("wet", x.of(1, 7), 0);
        Check.due("dry", x.of(2, 5), 0);
        Check.due("defeats", x.of(2, 6), 0);
        Check.due("came", x.came(0, 1), 0);
        Check.due("book", x.book(0, 0), -1);
        Check.due("undo", x.undo(), false);
        Check.due("the image stays", x.image(false), true);
        Check.due("state of the image", x.look(5), 77);
    }
}

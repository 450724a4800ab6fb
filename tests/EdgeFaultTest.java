/** Term 2 (texts): which tokens there are, and which fault is told of which place. */
public final class EdgeFaultTest {
    private static final int DELTA = Check.DELTA;
    private static final int VOTES = Check.VOTES;
    private static final int MOVES = Check.MOVES;

    public static void main(String[] args) {
        keywordsOfEachText();
        lettersTogether();
        digitsTogether();
        signsBesideThem();
        signs();
        blanks();
        faultOneAtTheEnd();
        headsInADelta();
        needInADelta();
        nodesInADelta();
        partsByZero();
        seventeenthLine();
        seventeenthNode();
        ninthThatIsOpen();
        nothingAtTheEnd();
        nodesThatAreNotThere();
        firstByItsPlace();
        leastAtOnePlace();
        emptyLaws();
        grammarOfLaws();
        Check.finish();
    }

    private static void keywordsOfEachText() {
        Check.holds("Term 2", "KEYWORDS (those told here for that text) or none");
        String[] asked = {"heads", "dry", "got", "need", "far", "arm", "won", "twice", "day", "fork"};
        for (String word : asked) {
            Check.fine(VOTES, "vote " + word + ";", 1);
        }
        for (String word : new String[] {"dams", "town", "wet", "store", "vote", "move", "when", "or", "and", "not", "sea", "needs"}) {
            Check.fault(VOTES, "vote " + word + ";", 1, 5);
        }
        for (String word : new String[] {"heads", "dry", "got", "need", "dams", "day", "town"}) {
            Check.fine(MOVES, "move " + word + ";", 1);
        }
        for (String word : new String[] {"far", "arm", "won", "twice", "fork", "wet", "store", "move", "vote", "when"}) {
            Check.fault(MOVES, "move " + word + ";", 1, 5);
        }
        for (String word : new String[] {"vote", "move", "heads", "need", "to", "and", "needs", "lake"}) {
            Check.fault(DELTA, word + " 1;sea;", 1, 0);
        }
        Check.fault(VOTES, "move 1;", 1, 0);
        Check.fault(MOVES, "vote 1;", 1, 0);
    }

    private static void lettersTogether() {
        Check.holds("Term 2", "letters as many as stand together are KEYWORDS .. or none");
        for (String more : new String[] {"a", "z", "A", "Z"}) {
            Check.fault(DELTA, "sea" + more + ";", 1, 0);
            Check.fault(VOTES, "vote heads" + more + ";", 1, 5);
        }
        Check.fault(DELTA, "se;", 1, 0);
        Check.fault(DELTA, "SEA;", 1, 0);
        Check.fault(DELTA, "s ea;", 1, 0);
        Check.fault(VOTES, "voteheads;", 1, 0);
        Check.fine(VOTES, "vote7when heads=7and dry=0;", 1);
    }

    private static void digitsTogether() {
        Check.holds("Term 2", "digits as many as stand together NUMBERS of 1 to 4 digits or none");
        for (String number : new String[] {"0", "9", "0000", "0009", "9999"}) {
            Check.fine(VOTES, "vote " + number + ";", 1);
        }
        for (String number : new String[] {"00000", "00001", "10000", "99999", "123456789012"}) {
            Check.fault(VOTES, "vote " + number + ";", 1, 5);
        }
        Check.fault(VOTES, "vote 1 2;", 1, 7);
        Check.fine(DELTA, "town 0999 needs 0999 to 0001;sea;", 2);
        Check.fault(DELTA, "town 00999 needs 1 to 1;sea;", 1, 5);
        Check.fault(DELTA, "town 1 needs 00001 to 1;sea;", 1, 13);
        Check.fault(DELTA, "town 1 needs 1 to 00001;sea;", 1, 18);
        Check.fault(VOTES, "vote 1/00001;", 1, 7);
    }

    private static void signsBesideThem() {
        Check.holds("Term 2", "letters as many as stand together; digits as many as stand together (other signs end them)");
        for (char sign : new char[] {'`', '{', '@', '[', '_', '/', ':', '.', '#', 223, 233}) {
            Check.fault(DELTA, "sea" + sign + ";", 1, 3);
            Check.fault(DELTA, "town 5" + sign + " needs 1 to 1;sea;", 1, 6);
            Check.fault(DELTA, "fork to 1 and 1" + sign + "sea;", 1, 15);
        }
    }

    private static void signs() {
        Check.holds("Term 2", "; + - * / ( ) < = > .");
        Check.fine(VOTES, "vote 1+2-3*4/5 when(1<2 and 3=3)or 4>3;", 1);
        for (char sign = 0; sign < 256; sign++) {
            boolean letter = sign >= 'a' && sign <= 'z' || sign >= 'A' && sign <= 'Z';
            boolean digit = sign >= '0' && sign <= '9';
            if (letter || digit || sign == ' ' || sign == '\n' || ";+-*/".indexOf(sign) >= 0) {
                continue;
            }
            Check.fault(VOTES, "vote 7" + sign + "7;", 1, 6);
        }
        Check.fault(VOTES, "vote 7.;", 1, 6);
    }

    private static void blanks() {
        Check.holds("Term 2", "Blanks (32, 10) between");
        Check.fine(DELTA, " \n\n sea \n ;\n", 1);
        Check.fine(DELTA, "fork to1and1;sea;", 2);
        for (char none : new char[] {0, 9, 11, 12, 13, 31, 33, 127, 128, 160, 255}) {
            Check.fault(DELTA, "sea" + none + ";", 1, 3);
            Check.fault(DELTA, none + "sea;", 1, 0);
            Check.fault(DELTA, "sea;" + none, 1, 4);
        }
    }

    private static void faultOneAtTheEnd() {
        Check.holds("Term 2", "1 what can't stand there (the end: the text's length)");
        String delta = "fork to 1 and 1 ;";
        for (int length : new int[] {4, 7, 9, 13, 15}) {
            Check.fault(DELTA, delta.substring(0, length), 1, length);
            Check.fault(DELTA, delta.substring(0, length) + " \n", 1, length + 2);
        }
        String town = "town 5 needs 6 to 1";
        for (int length : new int[] {4, 6, 12, 14, 17, 19}) {
            Check.fault(DELTA, town.substring(0, length), 1, length);
        }
        String law = "vote 1 + 2 when not ( 1 < 2 )";
        for (int length : new int[] {4, 6, 8, 10, 15, 19, 21, 23, 25, 27, 29}) {
            Check.fault(VOTES, law.substring(0, length), 1, length);
            Check.fault(VOTES, law.substring(0, length) + "  ", 1, length + 2);
        }
    }

    private static void headsInADelta() {
        Check.holds("Term 2", "HEADS 0 .. 999; 2 (at the NUMBER) HEADS above 999");
        for (int heads : new int[] {0, 1, 999}) {
            VotedRiver x = Check.river("town " + heads + " needs 1 to 1;sea;");
            Check.due("the heads", x.of(0, 0), heads);
        }
        for (int heads : new int[] {1000, 1001, 9999}) {
            Check.fault(DELTA, "town " + heads + " needs 1 to 1;sea;", 2, 5);
        }
    }

    private static void needInADelta() {
        Check.holds("Term 2", "a NEED 1 .. 999; 2 (at the NUMBER) a NEED 0 or above 999");
        for (int need : new int[] {1, 2, 999}) {
            VotedRiver x = Check.river("town 5 needs " + need + " to 1;sea;");
            Check.due("the need", x.of(0, 1), need);
        }
        for (String need : new String[] {"0", "0000", "1000", "9999"}) {
            Check.fault(DELTA, "town 5 needs " + need + " to 1;sea;", 2, 13);
        }
    }

    private static void nodesInADelta() {
        Check.holds("Term 2", "2 (at the NUMBER) a NODE above 15 or not above that which goes there");
        String seas = "sea;".repeat(15);
        Check.fine(DELTA, "fork to 15 and 15 and 15;" + seas, 16);
        Check.fine(DELTA, "town 5 needs 5 to 15;" + seas, 16);
        for (String none : new String[] {"16", "17", "99", "9999", "0", "0000"}) {
            Check.fault(DELTA, "fork to " + none + " and 15 and 15;" + seas, 2, 8);
            Check.fault(DELTA, "fork to 15 and " + none + " and 15;" + seas, 2, 15);
            Check.fault(DELTA, "fork to 15 and 15 and " + none + ";" + seas, 2, 22);
            Check.fault(DELTA, "town 5 needs 5 to " + none + ";" + seas, 2, 18);
        }
        Check.fault(DELTA, "sea;sea;sea;fork to 3 and 4;sea;", 2, 20);
        Check.fault(DELTA, "sea;sea;sea;fork to 4 and 3;sea;", 2, 26);
        Check.fine(DELTA, "sea;sea;sea;fork to 4 and 4;sea;", 5);
    }

    private static void partsByZero() {
        Check.holds("Term 2", "2 (at the NUMBER) a part by 0");
        Check.fine(VOTES, "vote heads/1;", 1);
        Check.fine(VOTES, "vote heads/9999;", 1);
        Check.fine(VOTES, "vote 0/1*0;", 1);
        for (String zero : new String[] {"0", "00", "0000"}) {
            Check.fault(VOTES, "vote heads/" + zero + ";", 2, 11);
            Check.fault(MOVES, "move 1 when 1=heads / " + zero + ";", 2, 22);
        }
        Check.fault(VOTES, "vote 6/2/0;", 2, 9);
        Check.fault(VOTES, "vote heads/dry;", 1, 11);
    }

    private static void seventeenthLine() {
        Check.holds("Term 2", "3 (at its KEYWORD) the 17th line");
        String[] line = {"", "vote 1;", "move 1;"};
        String[] word = {"", "vote", "move"};
        for (int k = 1; k < 3; k++) {
            String sixteen = line[k].repeat(16);
            Check.fine(k, sixteen, 16);
            Check.fine(k, sixteen + " \n ", 16);
            Check.fault(k, sixteen + line[k], 3, 112);
            Check.fault(k, sixteen + "  " + word[k], 3, 114);
            Check.fault(k, sixteen + word[k] + " 1/0;", 3, 112);
            Check.fault(k, sixteen + word[3 - k] + " 1;", 1, 112);
            Check.fault(k, sixteen + ";", 1, 112);
            Check.fault(k, sixteen + "when", 1, 112);
        }
    }

    private static void seventeenthNode() {
        Check.holds("Term 2", "3 (at its KEYWORD) the 17th NODE");
        String sixteen = "sea;".repeat(16);
        Check.fine(DELTA, sixteen + " \n ", 16);
        for (String word : new String[] {"sea", "fork", "town"}) {
            Check.fault(DELTA, sixteen + word, 3, 64);
            Check.fault(DELTA, sixteen + "\n" + word + " to 0;", 3, 65);
        }
        for (String none : new String[] {"to", "and", "needs", ";", "7", "lake"}) {
            Check.fault(DELTA, sixteen + none, 1, 64);
        }
        Check.fault(DELTA, "fork to 1 and 15;" + "sea;".repeat(16), 3, 77);
    }

    private static void ninthThatIsOpen() {
        Check.holds("Term 2", "3 (at it) the 9th ( or not that is open");
        String head = "vote 1 when ";
        Check.fine(VOTES, head + "((((((((1=1))))))));", 1);
        Check.fault(VOTES, head + "(((((((((1=1)))))))));", 3, 20);
        Check.fine(VOTES, head + "not not not not not not not not 1=1;", 1);
        Check.fault(VOTES, head + "not not not not not not not not not 1=1;", 3, 44);
        Check.fine(VOTES, head + "not(not(not(not(1=1))));", 1);
        Check.fault(VOTES, head + "not(not(not(not((1=1)))));", 3, 28);
        Check.fault(VOTES, head + "not(not(not(not(not 1=1))));", 3, 28);
        Check.fault(VOTES, head + "(((((((((", 3, 20);
        Check.fault(VOTES, head + "((((((((", 1, 20);
        Check.holds("Term 2", "the 9th .. that is open (those that are closed don't count)");
        String eight = "((((((((1=1))))))))";
        Check.fine(VOTES, head + eight + " and " + eight + " or " + eight + ";", 1);
        Check.fine(VOTES, head + "((((((((1=1))))and((((1=1))))))));", 1);
        Check.fault(VOTES, head + "((((((((1=1))))and(((((1=1)))))))));", 3, 34);
        String nots = "not not not not not not not not 1=1";
        Check.fine(VOTES, head + nots + " and " + nots + ";", 1);
        Check.fine(VOTES, head + "1=1;vote 1 when " + eight + ";", 2);
    }

    private static void nothingAtTheEnd() {
        Check.holds("Term 2", "4 (at the end) no NODE");
        Check.fault(DELTA, "", 4, 0);
        Check.fault(DELTA, " ", 4, 1);
        Check.fault(DELTA, "\n \n", 4, 3);
        Check.fine(DELTA, "sea;", 1);
    }

    private static void nodesThatAreNotThere() {
        Check.holds("Term 2", "4 (at the end) a NODE to which one goes that is not there");
        Check.fine(DELTA, "fork to 1 and 1 and 1;sea;", 2);
        Check.fault(DELTA, "fork to 2 and 1 and 1;sea;", 4, 26);
        Check.fault(DELTA, "fork to 1 and 2 and 1;sea;", 4, 26);
        Check.fault(DELTA, "fork to 1 and 1 and 2;sea; ", 4, 27);
        Check.fault(DELTA, "fork to 1 and 15;sea;", 4, 21);
        Check.fine(DELTA, "town 5 needs 5 to 1;sea;", 2);
        Check.fault(DELTA, "town 5 needs 5 to 1;", 4, 20);
        Check.fault(DELTA, "sea;town 5 needs 5 to 2;", 4, 24);
        Check.fault(DELTA, "fork to 1 and 15;" + "sea;".repeat(14), 4, 73);
        Check.fine(DELTA, "fork to 1 and 15;" + "sea;".repeat(15), 16);
    }

    private static void firstByItsPlace() {
        Check.holds("Term 2", "FAULTS, the first by its place");
        Check.fault(DELTA, "town 1000 needs 0 to 77;lake", 2, 5);
        Check.fault(DELTA, "town 1 need 0 to 77;", 1, 7);
        Check.fault(DELTA, "fork to 5 and 0", 2, 14);
        Check.fault(DELTA, "fork to 15 and 15;!", 1, 18);
        Check.fault(DELTA, "sea;".repeat(16) + "sea;!", 3, 64);
        Check.fault(DELTA, "!" + "sea;".repeat(17), 1, 0);
        Check.fault(VOTES, "vote 1/0!", 2, 7);
        Check.fault(VOTES, "vote !1/0", 1, 5);
        Check.fault(VOTES, "vote 1 when (((((((((1/0", 3, 20);
        Check.fault(VOTES, "vote 1/0 when (((((((((", 2, 7);
    }

    private static void leastAtOnePlace() {
        Check.holds("Term 2", "at one place the least");
        Check.fault(DELTA, "fork to 1 and 2", 1, 15);
        Check.fault(DELTA, "town 5 needs 5 to 9", 1, 19);
        Check.fault(DELTA, "sea", 1, 3);
        Check.fault(DELTA, "fork to 1 and 2;", 4, 16);
    }

    private static void emptyLaws() {
        Check.holds("Term 2", "1 THE LAW OF VOTES, 2 THE LAW OF MOVES (empty at first)");
        VotedRiver x = new VotedRiver();
        Check.due("lines of votes", x.look(6), 0);
        Check.due("lines of moves", x.look(7), 0);
        for (int k = 1; k < 3; k++) {
            Check.fine(k, "", 0);
            Check.fine(k, " \n", 0);
            Check.fault(k, ";", 1, 0);
        }
    }

    private static void grammarOfLaws() {
        Check.holds("Term 2", "B = A {or A}. A = C {and C}. C = E (< | = | >) E | not C | ( B ). E = T {(+ | -) T}. T = U {* U | / NUMBER}");
        Check.fault(VOTES, "vote;", 1, 4);
        Check.fault(VOTES, "vote 1 when;", 1, 11);
        Check.fault(VOTES, "vote (1);", 1, 5);
        Check.fault(VOTES, "vote -1;", 1, 5);
        Check.fault(VOTES, "vote +1;", 1, 5);
        Check.fault(VOTES, "vote 1+;", 1, 7);
        Check.fault(VOTES, "vote 1*;", 1, 7);
        Check.fault(VOTES, "vote 1/;", 1, 7);
        Check.fault(VOTES, "vote 1 when 1;", 1, 13);
        Check.fault(VOTES, "vote 1 when 1<;", 1, 14);
        Check.fault(VOTES, "vote 1 when 1<>2;", 1, 14);
        Check.fault(VOTES, "vote 1 when 1<2<3;", 1, 15);
        Check.fault(VOTES, "vote 1 when ();", 1, 13);
        Check.fault(VOTES, "vote 1 when (1<2;", 1, 16);
        Check.fault(VOTES, "vote 1 when 1<2);", 1, 15);
        Check.fault(VOTES, "vote 1 when (1)<2;", 1, 14);
        Check.fault(VOTES, "vote 1 when (1<2)+1;", 1, 17);
        Check.fault(VOTES, "vote 1 when not;", 1, 15);
        Check.fault(VOTES, "vote 1 when 1<2 or;", 1, 18);
        Check.fault(VOTES, "vote 1 when 1<2 and;", 1, 19);
        Check.fault(VOTES, "vote 1 when or 1<2;", 1, 12);
        Check.fault(VOTES, "vote 1 when 1<2 1<2;", 1, 16);
        Check.fault(VOTES, "vote 1 when 1<2 not 1<2;", 1, 16);
        Check.fault(VOTES, "vote 1 when 1<2 when 1<2;", 1, 16);
        Check.fault(VOTES, "when 1<2;", 1, 0);
    }
}

import java.nio.ByteBuffer;
import java.nio.charset.StandardCharsets;
import java.nio.file.Files;
import java.nio.file.Path;
import java.util.List;

/** What README.md shows stands here, line by line, and answers as it says there. */
public final class ReadmeTest {
    private static final Path README = Path.of("README.md");
    private static final Path HERE = Path.of("tests/ReadmeTest.java");

    static int tell(VotedRiver river, int k, String text) {
        ByteBuffer tape = ByteBuffer.allocate(400).put(text.getBytes(StandardCharsets.US_ASCII)).rewind();
        river.end(0);
        while (tape.hasRemaining()) {
            river.feed(tape.getInt(), tape.getInt(), tape.getInt(), tape.getInt(), tape.getInt());
        }
        river.end(text.length());
        return river.text(k);
    }

    public static void main(String[] args) throws Exception {
        walk();
        int shown = shownLines();
        Check.due("lines of Java were found", shown > 20, true);
        Check.finish();
    }

    private static void walk() {
        VotedRiver river = new VotedRiver();
        int nodes = tell(river, 0, "fork to 1 and 2; town 30 needs 60 to 3; town 20 needs 40 to 3; sea;");
        int lines = tell(river, 2, "move heads / 5 when dry > 2; move 0;");
        int votes = river.votes(1, 0, 0);
        int floods = river.days(2);
        int water = river.look(3);
        int open = river.fork(0, 0);
        int dry = river.of(2, 5);
        int thirst = river.thirst(1);
        int later = river.later(2, 2, 0);
        int least = river.least(2, 0);
        Check.due("nodes", nodes, 4);
        Check.due("lines", lines, 2);
        Check.due("votes", votes, 30);
        Check.due("floods", floods, 0);
        Check.due("water", water, 80);
        Check.due("open", open, 1);
        Check.due("dry", dry, 2);
        Check.due("thirst", thirst, Check.NONE);
        Check.due("later", later, 13);
        Check.due("least", least, 11);
        boolean bought = river.buy(0, 1, 11);
        floods = river.days(2);
        int book = river.book(2, 2);
        boolean undone = river.undo();
        boolean taken = river.image(true);
        Check.due("bought", bought, true);
        Check.due("floods then", floods, 0);
        Check.due("book", book, 2);
        Check.due("undone", undone, true);
        Check.due("taken", taken, true);
        nodes = tell(river, 0, "lake;");
        int fault = river.fault(0);
        int place = river.fault(1);
        Check.due("nodes of a lake", nodes, VotedRiver.NONE);
        Check.due("fault", fault, 1);
        Check.due("place", place, 0);
    }

    /** How many lines of Java README.md shows; each must stand here, too. */
    private static int shownLines() throws Exception {
        String here = String.join("\n", Files.readAllLines(HERE));
        List<String> lines = Files.readAllLines(README);
        int shown = 0;
        boolean java = false;
        for (String line : lines) {
            if (line.startsWith("```")) {
                java = line.equals("```java");
            } else if (java) {
                String code = line.replaceAll(" *//.*", "").strip();
                Check.due("«" + code + "» stands in " + HERE, here.contains(code), true);
                shown++;
            }
        }
        return shown;
    }
}

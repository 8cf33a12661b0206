import java.io.IOException;
import java.nio.file.Files;
import java.nio.file.Path;

/** The example of README.md: its lines stand here, and its answers are due. */
public final class ExampleTest {
    private static final String BEGIN = "// The example begins.\n";
    private static final String END = "// The example ends.\n";

    public static void main(String[] args) throws IOException {
        Check.topic("the example of README.md");
        String readme = Files.readString(Path.of("README.md"));
        // The first BEGIN of this file is the constant, whose line ends otherwise.
        String here = Files.readString(Path.of("src/test/java/ExampleTest.java"));
        Check.dueText("its lines", between(readme, "```java\n", "```\n"), between(here, BEGIN, END));
        theAnswers();
        Check.end("ExampleTest");
    }

    /** The lines between two others, without the blanks in front of them. */
    private static String between(String text, String begin, String end) {
        int from = text.indexOf(begin) + begin.length();
        int to = text.indexOf(end, from);
        return text.substring(from, Math.max(from, to)).replaceAll("(?m)^ +", "").trim();
    }

    private static void theAnswers() {
        // The example begins.
        StoryPanels board = new StoryPanels();
        for (char sign : "0/12,A+3,A>".toCharArray()) {
            board.type(sign);               // scene 0, 12 ticks; A picks prop 3 up and moves to the right
        }
        int first = board.putPanel();       // 0, its number; the text stays, so that it can be put again
        int second = board.putPanel();      // 1; A picks up what it holds: a break
        int breaks = board.count(3);        // 1, the breaks of the board
        int kind = board.breakOf(0, 1);     // 1, the kind of the first one
        int who = board.holder(3, first);   // 0, for A holds prop 3 behind that panel
        int tick = board.panel(second, 4);  // 12, the tick at which the second one begins
        int there = board.ifMoved(second, 4, 0);    // 1, the breaks if it was moved to scene 4
        int moved = board.move(second, 4, 0);       // 1, the breaks; it is moved now
        int length = board.clearText();     // 11, the length that the text had
        int fault = board.putPanel();       // -100, for the empty text has a fault at 0
        int left = board.undo();            // 2, the states that are left; the move is taken back
        int place = board.panel(second, 3); // 1, its place in its scene
        // The example ends.
        Check.due("first", first, 0);
        Check.due("second", second, 1);
        Check.due("breaks", breaks, 1);
        Check.due("kind", kind, 1);
        Check.due("who", who, 0);
        Check.due("tick", tick, 12);
        Check.due("there", there, 1);
        Check.due("moved", moved, 1);
        Check.due("length", length, 11);
        Check.due("fault", fault, -100);
        Check.due("left", left, 2);
        Check.due("place", place, 1);
    }
}

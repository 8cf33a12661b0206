/** Promises 14 to 17: what is told of panels, events, ranks and scenes. */
public final class ToldTest {
    private static final int MIN = Integer.MIN_VALUE;
    private static final int MAX = Integer.MAX_VALUE;

    public static void main(String[] args) {
        promise14Panel();
        promise15Event();
        promise16At();
        promise17Scene();
        Check.end("ToldTest");
    }

    private static StoryPanels board() {
        StoryPanels x = Check.board("3/10,A+0,B+1", "1/20,A=0", "1/40,B>,B<,B>", "3/7", "0/99,C.");
        x.moveScene(3, 1);
        return x;
    }

    private static void promise14Panel() {
        StoryPanels x = board();
        Check.dueText("14: the order", Check.line(x), "4 0 3 1 2");
        int[][] due = {
            {3, 10, 2, 0, 99, 1, 0},
            {1, 20, 1, 0, 116, 3, 0},
            {1, 40, 3, 1, 136, 4, 3},
            {3, 7, 0, 1, 109, 2, 0},
            {0, 99, 1, 0, 0, 0, 0},
        };
        for (int panel = 0; panel < due.length; panel++) {
            for (int what = 0; what <= 6; what++) {
                Check.due("14: panel(" + panel + ", " + what + ")", x.panel(panel, what), due[panel][what]);
            }
            for (int wrong : new int[] {-1, 7, MIN, MAX}) {
                Check.due("14: panel(" + panel + ", " + wrong + ")", x.panel(panel, wrong), Check.BAD_VALUE);
            }
        }
        x.takeAway(3);
        for (int wrong : new int[] {-1, 3, 5, 10, 99, MIN, MAX}) {
            Check.due("14: panel(" + wrong + ", 0)", x.panel(wrong, 0), Check.UNKNOWN);
            Check.due("14: panel(" + wrong + ", 7)", x.panel(wrong, 7), Check.UNKNOWN);
        }
        Check.due("14: the tick behind a panel that was taken away", x.panel(1, 4), 109);
        Check.due("14: the rank behind it", x.panel(1, 5), 2);
    }

    private static void promise15Event() {
        StoryPanels x = Check.board("3/10,A+0,B-9,C=5", "1/20,D>", "1/30,B<,A.", "0/1");
        int[][][] due = {
            {{0, 0, 0}, {1, 1, 9}, {2, 2, 5}},
            {{3, 3, Check.NONE}},
            {{1, 4, Check.NONE}, {0, 5, Check.NONE}},
            {},
        };
        for (int panel = 0; panel < due.length; panel++) {
            int events = due[panel].length;
            for (int event = 0; event < events; event++) {
                for (int what = 0; what < 3; what++) {
                    Check.due("15: event(" + panel + ", " + event + ", " + what + ")",
                            x.event(panel, event, what), due[panel][event][what]);
                }
                for (int wrong : new int[] {-1, 3, MIN, MAX}) {
                    Check.due("15: event(" + panel + ", " + event + ", " + wrong + ")",
                            x.event(panel, event, wrong), Check.BAD_VALUE);
                }
            }
            for (int wrong : new int[] {-1, events, 6, MIN, MAX}) {
                Check.due("15: event(" + panel + ", " + wrong + ", 0)", x.event(panel, wrong, 0), Check.UNKNOWN);
                Check.due("15: event(" + panel + ", " + wrong + ", 3)", x.event(panel, wrong, 3), Check.UNKNOWN);
            }
        }
        x.takeAway(2);
        for (int wrong : new int[] {-1, 2, 4, 10, 99, MIN, MAX}) {
            Check.due("15: event(" + wrong + ", 0, 0)", x.event(wrong, 0, 0), Check.UNKNOWN);
            Check.due("15: event(" + wrong + ", 0, -1)", x.event(wrong, 0, -1), Check.UNKNOWN);
        }
    }

    private static void promise16At() {
        StoryPanels x = board();
        int[] due = {4, 0, 3, 1, 2, Check.NONE, Check.NONE};
        for (int rank = 0; rank < due.length; rank++) {
            Check.due("16: at(" + rank + ")", x.at(rank), due[rank]);
        }
        Check.due("16: at(MAX)", x.at(MAX), Check.NONE);
        Check.due("16: at(-1)", x.at(-1), Check.BAD_VALUE);
        Check.due("16: at(MIN)", x.at(MIN), Check.BAD_VALUE);
        x.takeAway(0);
        Check.due("16: at(1) behind a taking away", x.at(1), 3);
        Check.due("16: at(4) behind a taking away", x.at(4), Check.NONE);
    }

    private static void promise17Scene() {
        StoryPanels x = board();
        int[][] due = {
            {0, 1, 99, 0, 0},
            {2, 2, 60, 3, 116},
            {3, 0, 0, 0, 176},
            {1, 2, 17, 0, 99},
            {4, 0, 0, 0, 176},
        };
        for (int scene = 0; scene < 5; scene++) {
            for (int what = 0; what < 5; what++) {
                Check.due("17: scene(" + scene + ", " + what + ")", x.scene(scene, what), due[scene][what]);
            }
            for (int wrong : new int[] {-1, 5, MIN, MAX}) {
                Check.due("17: scene(" + scene + ", " + wrong + ")", x.scene(scene, wrong), Check.BAD_VALUE);
            }
        }
        for (int wrong : new int[] {-1, 5, MIN, MAX}) {
            Check.due("17: scene(" + wrong + ", 0)", x.scene(wrong, 0), Check.UNKNOWN);
            Check.due("17: scene(" + wrong + ", 5)", x.scene(wrong, 5), Check.UNKNOWN);
        }
        x.moveScene(2, 0);
        Check.due("17: an empty scene begins where it stands", x.scene(2, 4), 0);
        x.moveScene(2, 1);
        Check.due("17: an empty scene behind the first one", x.scene(2, 4), 99);
        x.time(4, 1);
        Check.due("17: the sum then", x.scene(0, 2), 1);
        Check.due("17: the tick then", x.scene(1, 4), 18);
    }
}

/** Promises 14 to 17: what is told of panels, events, ranks and scenes. */
public final class ToldTest {
    public static void main(String[] args) {
        promise14Panel();
        promise14Bounds();
        promise14Refused();
        promise15Event();
        promise15Events();
        promise15Refused();
        promise16At();
        promise16Bounds();
        promise17Scene();
        promise17EmptyScenes();
        promise17Bounds();
        promise17Refused();
        Check.end("ToldTest");
    }

    private static Counted board() {
        Counted x = Check.board("3/10,A+0,B+1", "1/20,A=0", "1/40,B>,B<,B>", "3/7", "0/99,C.");
        x.moveScene(3, 1);
        return x;
    }

    private static void duePanel(Counted x, int panel, int... due) {
        for (int what = 0; what < due.length; what++) {
            Check.due("panel(" + panel + ", " + what + ")", x.panel(panel, what), due[what]);
        }
    }

    private static void promise14Panel() {
        Check.sentence("Promise 14", "0 for its scene, 1 for its duration, 2 for its events (how many), 3 for its place"
                + " in its scene, 4 for the tick at which it begins (0 for the first one of the board), 5 for its place"
                + " in the order of the board, from 0, 6 for the breaks in it");
        Counted x = board();
        Check.dueText("the order", Check.line(x), "4 0 3 1 2");
        duePanel(x, 0, 3, 10, 2, 0, 99, 1, 0);
        duePanel(x, 1, 1, 20, 1, 0, 116, 3, 0);
        duePanel(x, 2, 1, 40, 3, 1, 136, 4, 3);
        duePanel(x, 3, 3, 7, 0, 1, 109, 2, 0);
        duePanel(x, 4, 0, 99, 1, 0, 0, 0, 0);
        x.takeAway(3);
        duePanel(x, 1, 1, 20, 1, 0, 109, 2, 0);
        x.moveScene(1, 0);
        duePanel(x, 0, 3, 10, 2, 0, 159, 3, 1);
        duePanel(x, 1, 1, 20, 1, 0, 0, 0, 1);
        duePanel(x, 2, 1, 40, 3, 1, 20, 1, 2);
        x.time(1, 3);
        duePanel(x, 2, 1, 40, 3, 1, 3, 1, 2);
    }

    private static void promise14Bounds() {
        Check.sentence("Promise 14", "4 for the tick at which it begins (0 for the first one of the board)");
        Counted x = Check.boardOf(10, "4/99,A=0,A>,A<,A.,A-0,B-0");
        for (int panel = 0; panel < 10; panel++) {
            duePanel(x, panel, 4, 99, 6, panel, 99 * panel, panel, 3);
        }
        Counted alone = Check.board("4/99");
        Check.due("the only panel", alone.panel(0, 4), 0);
        Check.sentence("Promise 14", "6 for the breaks in it");
        Counted most = Check.board("0/1,A=0,A=1,A=2,A=3,A=4,A=5", "0/1,A=6,A=7,A=8,A=9,A>", "0/1,A<,A>,A<,A>,A<,A>");
        Check.due("six breaks by events", most.panel(0, 6), 6);
        Check.due("four breaks by events and six behind them", most.panel(1, 6), 10);
        Check.due("six breaks by events and ten behind them", most.panel(2, 6), 16);
        Check.due("none in a panel without events", Check.board("0/1,A=0", "0/1").panel(1, 6), 0);
    }

    private static void promise14Refused() {
        Check.sentence("Promise 14", "UNKNOWN; BAD_VALUE");
        Counted x = board();
        x.takeAway(3);
        for (int panel : Check.wrong(-1, 3, 5, 10, 98, 99)) {
            Check.due("panel(" + panel + ", 0)", x.panel(panel, 0), Check.UNKNOWN);
            Check.due("panel(" + panel + ", 4)", x.panel(panel, 4), Check.UNKNOWN);
            Check.due("panel(" + panel + ", 6)", x.panel(panel, 6), Check.UNKNOWN);
            Check.due("panel(" + panel + ", 7), UNKNOWN comes first", x.panel(panel, 7), Check.UNKNOWN);
            Check.due("panel(" + panel + ", -1), UNKNOWN comes first", x.panel(panel, -1), Check.UNKNOWN);
        }
        for (int what : Check.wrong(-1, 7, 8)) {
            Check.due("panel(0, " + what + ")", x.panel(0, what), Check.BAD_VALUE);
            Check.due("panel(4, " + what + ")", x.panel(4, what), Check.BAD_VALUE);
        }
    }

    private static void dueEvents(Counted x, int panel, int[]... due) {
        for (int event = 0; event < due.length; event++) {
            for (int what = 0; what < 3; what++) {
                Check.due("event(" + panel + ", " + event + ", " + what + ")", x.event(panel, event, what),
                        due[event][what]);
            }
        }
        Check.due("event(" + panel + ", " + due.length + ", 0)", x.event(panel, due.length, 0), Check.UNKNOWN);
    }

    private static void promise15Event() {
        Check.sentence("Promise 15", "0 for the character, 1 for the kind, 2 for the prop (NONE for the kinds 3 to 5)");
        Counted x = Check.board("3/10,A+0,B-9,C=5", "1/20,D>", "1/30,B<,A.", "0/1");
        dueEvents(x, 0, new int[] {0, 0, 0}, new int[] {1, 1, 9}, new int[] {2, 2, 5});
        dueEvents(x, 1, new int[] {3, 3, Check.NONE});
        dueEvents(x, 2, new int[] {1, 4, Check.NONE}, new int[] {0, 5, Check.NONE});
        dueEvents(x, 3);
        x.takeAway(1);
        x.move(0, 0, 0);
        dueEvents(x, 0, new int[] {0, 0, 0}, new int[] {1, 1, 9}, new int[] {2, 2, 5});
        dueEvents(x, 2, new int[] {1, 4, Check.NONE}, new int[] {0, 5, Check.NONE});
        Check.put(x, "4/4,D=8");
        dueEvents(x, 4, new int[] {3, 2, 8});
    }

    private static void promise15Events() {
        Check.sentence("Promise 15", "event: an event of it, from 0");
        Counted x = new Counted();
        for (int events = 0; events <= 6; events++) {
            Check.put(x, "0/1" + ",D=9".repeat(events));
        }
        for (int panel = 0; panel <= 6; panel++) {
            for (int event = 0; event <= 7; event++) {
                int due = event < panel ? 9 : Check.UNKNOWN;
                Check.due("event(" + panel + ", " + event + ", 2)", x.event(panel, event, 2), due);
            }
        }
    }

    private static void promise15Refused() {
        Check.sentence("Promise 15", "UNKNOWN (panel or event); BAD_VALUE.");
        Counted x = Check.board("3/10,A+0,B-9", "1/20,D>", "1/30,B<,A.");
        x.takeAway(1);
        for (int panel : Check.wrong(-1, 1, 3, 10, 98, 99)) {
            Check.due("event(" + panel + ", 0, 0)", x.event(panel, 0, 0), Check.UNKNOWN);
            Check.due("event(" + panel + ", 0, -1), UNKNOWN comes first", x.event(panel, 0, -1), Check.UNKNOWN);
            Check.due("event(" + panel + ", 0, 3), UNKNOWN comes first", x.event(panel, 0, 3), Check.UNKNOWN);
        }
        for (int event : Check.wrong(-1, 2, 3, 6)) {
            Check.due("event(0, " + event + ", 0)", x.event(0, event, 0), Check.UNKNOWN);
            Check.due("event(2, " + event + ", 2)", x.event(2, event, 2), Check.UNKNOWN);
            Check.due("event(0, " + event + ", -1), UNKNOWN comes first", x.event(0, event, -1), Check.UNKNOWN);
            Check.due("event(0, " + event + ", 3), UNKNOWN comes first", x.event(0, event, 3), Check.UNKNOWN);
        }
        for (int what : Check.wrong(-1, 3, 4)) {
            Check.due("event(0, 1, " + what + ")", x.event(0, 1, what), Check.BAD_VALUE);
            Check.due("event(2, 1, " + what + ") of a kind without a prop", x.event(2, 1, what), Check.BAD_VALUE);
        }
    }

    private static void promise16At() {
        Check.sentence("Promise 16", "rank: a place in the order of the board, from 0");
        Counted x = board();
        int[] due = {4, 0, 3, 1, 2};
        for (int rank = 0; rank < due.length; rank++) {
            Check.due("at(" + rank + ")", x.at(rank), due[rank]);
        }
        x.takeAway(0);
        Check.due("at(1) behind a taking away", x.at(1), 3);
        Check.due("at(3) behind a taking away", x.at(3), 2);
        Check.sentence("Promise 16", "NONE if there are not so many.");
        Check.due("at(4), which was the last one", x.at(4), Check.NONE);
    }

    private static void promise16Bounds() {
        Check.sentence("Promise 16", "BAD_VALUE if rank is negative; NONE if there are not so many.");
        for (int panels = 0; panels <= 10; panels++) {
            Counted x = Check.boardOf(panels, "2/1");
            for (int rank = 0; rank <= 11; rank++) {
                Check.due("at(" + rank + ") of " + panels, x.at(rank), rank < panels ? rank : Check.NONE);
            }
            Check.due("at(-1) of " + panels, x.at(-1), Check.BAD_VALUE);
            for (int rank : Check.FAR) {
                Check.due("at(" + rank + ") of " + panels, x.at(rank), rank < 0 ? Check.BAD_VALUE : Check.NONE);
            }
        }
    }

    private static void dueScene(Counted x, int scene, int... due) {
        for (int what = 0; what < due.length; what++) {
            Check.due("scene(" + scene + ", " + what + ")", x.scene(scene, what), due[what]);
        }
    }

    private static void promise17Scene() {
        Check.sentence("Promise 17", "0 for its place in the order of scenes, 1 for its panels, 2 for the sum of their"
                + " durations, 3 for the breaks in them, 4 for the tick at which it begins");
        Counted x = board();
        dueScene(x, 0, 0, 1, 99, 0, 0);
        dueScene(x, 1, 2, 2, 60, 3, 116);
        dueScene(x, 2, 3, 0, 0, 0, 176);
        dueScene(x, 3, 1, 2, 17, 0, 99);
        dueScene(x, 4, 4, 0, 0, 0, 176);
        x.moveScene(1, 0);
        dueScene(x, 0, 1, 1, 99, 0, 60);
        dueScene(x, 1, 0, 2, 60, 3, 0);
        dueScene(x, 3, 2, 2, 17, 1, 159);
        x.time(4, 1);
        dueScene(x, 0, 1, 1, 1, 0, 60);
        dueScene(x, 3, 2, 2, 17, 1, 61);
    }

    private static void promise17EmptyScenes() {
        Check.sentence("Promise 17", "4 for the tick at which it begins");
        Counted x = board();
        x.moveScene(2, 0);
        dueScene(x, 2, 0, 0, 0, 0, 0);
        x.moveScene(2, 1);
        dueScene(x, 2, 1, 0, 0, 0, 99);
        x.moveScene(2, 4);
        dueScene(x, 2, 4, 0, 0, 0, 176);
        dueScene(x, 4, 3, 0, 0, 0, 176);
        x.takeAway(4);
        dueScene(x, 0, 0, 0, 0, 0, 0);
        dueScene(x, 3, 1, 2, 17, 0, 0);
    }

    private static void promise17Bounds() {
        Check.sentence("Promise 17", "1 for its panels, 2 for the sum of their durations");
        Counted x = Check.boardOf(10, "3/99,A=0,A-0");
        dueScene(x, 3, 3, 10, 990, 10, 0);
        dueScene(x, 2, 2, 0, 0, 0, 0);
        dueScene(x, 4, 4, 0, 0, 0, 990);
        for (int panel = 0; panel < 10; panel++) {
            x.takeAway(panel);
        }
        dueScene(x, 3, 3, 0, 0, 0, 0);
        dueScene(x, 4, 4, 0, 0, 0, 0);
    }

    private static void promise17Refused() {
        Check.sentence("Promise 17", "UNKNOWN; BAD_VALUE");
        Counted x = board();
        for (int scene : Check.wrong(-1, 5)) {
            for (int what = -1; what <= 5; what++) {
                Check.due("scene(" + scene + ", " + what + ")", x.scene(scene, what), Check.UNKNOWN);
            }
        }
        for (int what : Check.wrong(-1, 5, 6)) {
            for (int scene = 0; scene < 5; scene++) {
                Check.due("scene(" + scene + ", " + what + ")", x.scene(scene, what), Check.BAD_VALUE);
            }
        }
    }
}

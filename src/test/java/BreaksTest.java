/** Promises 18 to 23: holders, breaks, what another place would bring, and counts. */
public final class BreaksTest {
    public static void main(String[] args) {
        promise18BehindAPanel();
        promise18AllProps();
        promise18Refused();
        promise19BreakOf();
        promise19Refused();
        promise19TheMostBreaks();
        promise20FirstBreak();
        promise20Refused();
        promise21IfMoved();
        promise21NothingIsMoved();
        promise21Refused();
        promise22BestPlace();
        promise22OfSeveralTheLowest();
        promise22Bounds();
        promise22Refused();
        promise23Counts();
        promise23PropsBehindTheLastPanel();
        promise23Bounds();
        promise23Refused();
        Check.end("BreaksTest");
    }

    private static void promise18BehindAPanel() {
        Check.sentence("Promise 18", "Tells who holds a prop behind a panel.");
        Counted x = Check.board("0/1,A+0,B+1", "0/1,A-0,B=1,C+0", "1/1,D+0,B-1", "1/1");
        int[][] due = {{0, 1}, {2, 1}, {3, Check.NONE}, {3, Check.NONE}};
        for (int panel = 0; panel < 4; panel++) {
            for (int prop = 0; prop < 2; prop++) {
                Check.due("holder(" + prop + ", " + panel + ")", x.holder(prop, panel), due[panel][prop]);
            }
        }
        x.moveScene(1, 0);
        Check.due("in another order of the board", x.holder(0, 2), 3);
        Check.due("nobody has picked it up yet", x.holder(1, 3), Check.NONE);
        Check.due("behind the last one", x.holder(0, 1), 2);
        Check.sentence("Promise 18", "NONE if nobody does.");
        for (int panel = 0; panel < 4; panel++) {
            Check.due("holder(9, " + panel + ")", x.holder(9, panel), Check.NONE);
        }
        Counted y = Check.board("0/1", "0/1,A+4,A-4", "0/1,D=4", "0/1,C-4");
        int[] holders = {Check.NONE, Check.NONE, 3, Check.NONE};
        for (int panel = 0; panel < 4; panel++) {
            Check.due("holder(4, " + panel + ")", y.holder(4, panel), holders[panel]);
        }
    }

    private static void promise18AllProps() {
        Check.sentence("Promise 18", "prop: 0 to 9");
        Counted x = Check.board("0/1,A+9,A+8,A+7,A+6,A+5,A+4", "4/1,D+0,D+1,B+2,C+3");
        int[] holders = {3, 3, 1, 2, 0, 0, 0, 0, 0, 0};
        for (int prop = 0; prop < 10; prop++) {
            Check.due("holder(" + prop + ", 0)", x.holder(prop, 0), prop < 4 ? Check.NONE : 0);
            Check.due("holder(" + prop + ", 1)", x.holder(prop, 1), holders[prop]);
        }
    }

    private static void promise18Refused() {
        Check.sentence("Promise 18", "UNKNOWN (prop or panel)");
        Counted x = Check.board("0/1,A+0", "0/1,A+9", "0/1");
        x.takeAway(1);
        for (int prop : Check.wrong(-1, 10, 11)) {
            Check.due("holder(" + prop + ", 0)", x.holder(prop, 0), Check.UNKNOWN);
            Check.due("holder(" + prop + ", 1)", x.holder(prop, 1), Check.UNKNOWN);
        }
        for (int panel : Check.wrong(-1, 1, 3, 10, 98, 99)) {
            Check.due("holder(0, " + panel + ")", x.holder(0, panel), Check.UNKNOWN);
            Check.due("holder(9, " + panel + ")", x.holder(9, panel), Check.UNKNOWN);
        }
    }

    private static void promise19BreakOf() {
        Check.sentence("Promise 19", "0 for the panel, 1 for the kind of break (1 to 5), 2 for the character, 3 for the"
                + " prop (NONE for 5), 4 for the event of the panel (NONE for 4)");
        Counted x = Check.board("1/1,C-4", "0/1,B>,D+2,B<,D.", "0/1,D.", "2/1,A+2,A=3");
        int[][] due = {{1, 5, 1, Check.NONE, 2}, {2, 4, 3, 2, Check.NONE}, {0, 2, 2, 4, 0}, {3, 1, 0, 2, 0},
            {3, 3, 0, 3, 1}};
        for (int rank = 0; rank < due.length; rank++) {
            for (int what = 0; what < 5; what++) {
                Check.due("breakOf(" + rank + ", " + what + ")", x.breakOf(rank, what), due[rank][what]);
            }
        }
        Check.sentence("Promise 19", "NONE if there are not so many.");
        for (int what = 0; what < 5; what++) {
            Check.due("breakOf(5, " + what + ") of five", x.breakOf(5, what), Check.NONE);
            Check.due("breakOf(MAX, " + what + ") of five", x.breakOf(Check.MAX, what), Check.NONE);
            Check.due("breakOf(0, " + what + ") of none", Check.board("0/1").breakOf(0, what), Check.NONE);
        }
        Check.sentence("Promise 19", "Tells the breaks of the board, in the order in which they come.");
        x.moveScene(1, 0);
        Check.dueText("in another order of scenes", Check.breaks(x), "0:2:2:4:0 1:5:1:_:2 2:4:3:2:_ 3:1:0:2:0 3:3:0:3:1");
        x.takeAway(1);
        Check.dueText("where a panel was taken away", Check.breaks(x), "0:2:2:4:0 3:3:0:3:1");
        Check.due("what was the third one", x.breakOf(2, 0), Check.NONE);
    }

    private static void promise19Refused() {
        Check.sentence("Promise 19", "BAD_VALUE (rank is negative, or what)");
        Counted x = Check.board("1/1,C-4");
        for (int what = -1; what <= 5; what++) {
            for (int rank : new int[] {-1, -2, -5, -100, -858993459, Check.MIN}) {
                Check.due("breakOf(" + rank + ", " + what + ")", x.breakOf(rank, what), Check.BAD_VALUE);
            }
        }
        for (int what : Check.wrong(-1, 5, 6)) {
            Check.due("breakOf(0, " + what + ")", x.breakOf(0, what), Check.BAD_VALUE);
            Check.due("breakOf(1, " + what + "), ahead of NONE", x.breakOf(1, what), Check.BAD_VALUE);
            Check.due("breakOf(MAX, " + what + "), ahead of NONE", x.breakOf(Check.MAX, what), Check.BAD_VALUE);
        }
        for (int rank : Check.FAR) {
            int due = rank < 0 ? Check.BAD_VALUE : Check.NONE;
            Check.due("breakOf(" + rank + ", 0)", x.breakOf(rank, 0), due);
            Check.due("breakOf(" + rank + ", 4)", x.breakOf(rank, 4), due);
        }
    }

    /** As many breaks as could be found: none gets lost. */
    private static void promise19TheMostBreaks() {
        Check.sentence("Promise 19", "Tells the breaks of the board, in the order in which they come.");
        Counted x = Check.board("0/1,A=0,A=1,A=2,A=3,A=4,A=5", "0/1,C-6,C-7,A=6,A=7,A=8,A=9");
        Check.write(x, "0/1,A>,A<,A>,A<,A>,A<");
        for (int panel = 2; panel < 10; panel++) {
            x.putPanel();
        }
        // By events 12, and 8 times 6 but for the first move; undrawn 6, and 8 times 10.
        Check.due("all breaks", x.count(3), 145);
        Check.due("put down", x.count(7), 2);
        Check.due("drawn", x.count(8), 10);
        Check.due("undrawn", x.count(9), 86);
        Check.due("turns", x.count(10), 47);
        Check.due("those of the scene", x.scene(0, 3), 145);
        Check.due("the first one's panel", x.breakOf(0, 0), 0);
        for (int rank = 129; rank < 135; rank++) {
            Check.due("breakOf(" + rank + ", 0)", x.breakOf(rank, 0), 9);
            Check.due("breakOf(" + rank + ", 1)", x.breakOf(rank, 1), 5);
            Check.due("breakOf(" + rank + ", 4)", x.breakOf(rank, 4), rank - 129);
        }
        for (int rank = 135; rank < 145; rank++) {
            Check.due("breakOf(" + rank + ", 1)", x.breakOf(rank, 1), 4);
            Check.due("breakOf(" + rank + ", 3)", x.breakOf(rank, 3), rank - 135);
        }
        Check.due("none behind the last one", x.breakOf(145, 0), Check.NONE);
        Check.due("the first one of the scene", x.firstBreak(0, 2), 0);
        Check.due("with another place of the last panel", x.ifMoved(9, 0, 5), 145);
        Check.due("with the second one at last", x.ifMoved(1, 0, 9), 6 + 47 + 8 * 6 + 6 + 6);
    }

    private static Counted firstBreaks() {
        return Check.board("2/1,C-4,C=4", "0/1,B>,B<,B>", "0/1,B<", "1/1,A+1", "4/1,A.");
    }

    private static void dueFirst(Counted x, int scene, int panel, int kind, int ahead) {
        Check.due("firstBreak(" + scene + ", 0)", x.firstBreak(scene, 0), panel);
        Check.due("firstBreak(" + scene + ", 1)", x.firstBreak(scene, 1), kind);
        Check.due("firstBreak(" + scene + ", 2)", x.firstBreak(scene, 2), ahead);
    }

    private static void promise20FirstBreak() {
        Check.sentence("Promise 20", "0 for the panel, 1 for the kind of break, 2 for how many breaks come ahead of it,"
                + " in other scenes");
        Counted x = firstBreaks();
        Check.dueText("the breaks", Check.breaks(x),
                "1:5:1:_:1 1:5:1:_:2 2:5:1:_:0 0:2:2:4:0 0:3:2:4:1 4:4:0:1:_");
        dueFirst(x, 0, 1, 5, 0);
        dueFirst(x, 2, 0, 2, 3);
        dueFirst(x, 4, 4, 4, 5);
        Check.sentence("Promise 20", "NONE if the scene has none.");
        dueFirst(x, 1, Check.NONE, Check.NONE, Check.NONE);
        dueFirst(x, 3, Check.NONE, Check.NONE, Check.NONE);
        Check.sentence("Promise 20", "as the board is gone through from its beginning");
        x.moveScene(2, 0);
        dueFirst(x, 2, 0, 2, 0);
        dueFirst(x, 0, 1, 5, 2);
        x.move(2, 0, 0);
        dueFirst(x, 0, 1, 5, 2);
        x.moveScene(4, 0);
        dueFirst(x, 4, Check.NONE, Check.NONE, Check.NONE);
        Counted y = Check.board("0/1,A+0,A=1", "1/1,A+0", "1/1");
        dueFirst(y, 0, 0, 3, 0);
        dueFirst(y, 1, 1, 1, 1);
    }

    private static void promise20Refused() {
        Check.sentence("Promise 20", "UNKNOWN; BAD_VALUE; NONE if the scene has none.");
        Counted x = firstBreaks();
        for (int scene : Check.wrong(-1, 5)) {
            for (int what = -1; what <= 3; what++) {
                Check.due("firstBreak(" + scene + ", " + what + ")", x.firstBreak(scene, what), Check.UNKNOWN);
            }
        }
        for (int what : Check.wrong(-1, 3, 4)) {
            Check.due("firstBreak(0, " + what + ")", x.firstBreak(0, what), Check.BAD_VALUE);
            Check.due("firstBreak(3, " + what + "), ahead of NONE", x.firstBreak(3, what), Check.BAD_VALUE);
        }
    }

    private static Counted story() {
        return Check.board("0/1,A+0", "0/2,A=0", "0/3,A-0", "1/4,A>,A<");
    }

    private static void dueIfMoved(Counted x, int panel, int scene, int... due) {
        for (int place = 0; place < due.length; place++) {
            Check.due("ifMoved(" + panel + ", " + scene + ", " + place + ")", x.ifMoved(panel, scene, place), due[place]);
        }
        Check.due("ifMoved(" + panel + ", " + scene + ", -1)", x.ifMoved(panel, scene, -1), Check.BAD_VALUE);
        Check.due("ifMoved(" + panel + ", " + scene + ", " + due.length + ")", x.ifMoved(panel, scene, due.length),
                Check.BAD_VALUE);
    }

    private static void promise21IfMoved() {
        Check.sentence("Promise 21", "Tells how many breaks the board would have, if a panel was moved.");
        Counted x = story();
        Check.due("the breaks", x.count(3), 1);
        dueIfMoved(x, 0, 0, 1, 3, 3);
        dueIfMoved(x, 0, 1, 3, 2);
        dueIfMoved(x, 1, 1, 3, 2);
        dueIfMoved(x, 3, 0, 1, 2, 2, 1);
        dueIfMoved(x, 3, 4, 1);
        dueIfMoved(x, 0, 4, 2);
        Check.sentence("Promise 21", "place: as for move()");
        Check.due("where it stands already, not NONE", x.ifMoved(0, 0, 0), 1);
        Check.due("where it stands already, at last", x.ifMoved(2, 0, 2), 1);
        Check.due("where it stands already, alone", x.ifMoved(3, 1, 0), 1);
        Counted full = Check.boardOf(10, "3/1,A=0,A-0");
        dueIfMoved(full, 0, 3, 10, 10, 10, 10, 10, 10, 10, 10, 10, 10);
        dueIfMoved(full, 9, 0, 10);
        full.move(0, 1, 0);
        dueIfMoved(full, 0, 3, 10, 10, 10, 10, 10, 10, 10, 10, 10, 10);
    }

    private static void promise21NothingIsMoved() {
        Check.sentence("Promise 21", "Tells how many breaks the board would have, if a panel was moved.");
        Counted x = story();
        x.undo();
        x.putPanel();
        x.undo();
        x.undo();
        String told = Check.told(x);
        for (int panel = 0; panel < 2; panel++) {
            for (int scene = 0; scene < 5; scene++) {
                for (int place = 0; place < 3; place++) {
                    x.ifMoved(panel, scene, place);
                }
                x.bestPlace(panel, scene);
            }
        }
        Check.dueText("the state", Check.told(x), told);
        Check.due("the states", x.count(11), 2);
    }

    private static void promise21Refused() {
        Check.sentence("Promise 21", "UNKNOWN (panel or scene); BAD_VALUE.");
        Counted x = story();
        x.takeAway(2);
        for (int panel : Check.wrong(-1, 2, 4, 10, 98, 99)) {
            Check.due("ifMoved(" + panel + ", 0, 0)", x.ifMoved(panel, 0, 0), Check.UNKNOWN);
            Check.due("ifMoved(" + panel + ", 0, -1), UNKNOWN comes first", x.ifMoved(panel, 0, -1), Check.UNKNOWN);
        }
        for (int scene : Check.wrong(-1, 5)) {
            Check.due("ifMoved(0, " + scene + ", 0)", x.ifMoved(0, scene, 0), Check.UNKNOWN);
            Check.due("ifMoved(0, " + scene + ", -1), UNKNOWN comes first", x.ifMoved(0, scene, -1), Check.UNKNOWN);
        }
        for (int place : Check.wrong(-1, 2, 3)) {
            Check.due("ifMoved(0, 0, " + place + "), of two panels", x.ifMoved(0, 0, place), Check.BAD_VALUE);
            Check.due("ifMoved(0, 1, " + place + "), of one panel and it", x.ifMoved(0, 1, place), Check.BAD_VALUE);
        }
        for (int place : Check.wrong(-1, 1, 2)) {
            Check.due("ifMoved(0, 3, " + place + "), of an empty scene", x.ifMoved(0, 3, place), Check.BAD_VALUE);
            Check.due("ifMoved(3, 1, " + place + "), alone in it", x.ifMoved(3, 1, place), Check.BAD_VALUE);
        }
    }

    private static void promise22BestPlace() {
        Check.sentence("Promise 22", "Tells the place of a scene at which a panel would bring the fewest breaks to the"
                + " board");
        Counted x = Check.board("0/1,A-0", "0/2,A=0", "0/3,A+0", "1/4,A>,A<", "1/5");
        Check.due("bestPlace(0, 0)", x.bestPlace(0, 0), 1);
        Check.due("bestPlace(1, 0)", x.bestPlace(1, 0), 0);
        Check.due("bestPlace(2, 0)", x.bestPlace(2, 0), 0);
        Counted between = Check.board("0/1,A-0", "1/1,A+0", "1/1,A=0", "1/1,A.");
        Check.due("between others", between.bestPlace(0, 1), 2);
        Check.due("its breaks there", between.ifMoved(0, 1, 2), 0);
        Counted behind = Check.board("0/1,A-0", "1/1,A+0", "1/1,A=0");
        Check.due("behind others", behind.bestPlace(0, 1), 2);
        Check.due("ahead of another", behind.bestPlace(1, 0), 0);
        Counted there = Check.board("0/1,A+0", "0/1,A=0", "0/1,A-0");
        for (int panel = 0; panel < 3; panel++) {
            Check.due("the place where panel " + panel + " stands", there.bestPlace(panel, 0), panel);
        }
    }

    private static void promise22OfSeveralTheLowest() {
        Check.sentence("Promise 22", "of several the lowest one");
        Counted x = Check.board("0/1,A>", "0/2,B.", "0/3,A<", "0/4", "0/5,A.");
        Check.due("panel 4 brings the fewest at 1 and 2", x.bestPlace(4, 0), 1);
        Check.due("those of place 0", x.ifMoved(4, 0, 0), 1);
        Check.due("those of place 1", x.ifMoved(4, 0, 1), 0);
        Check.due("those of place 2", x.ifMoved(4, 0, 2), 0);
        Check.due("those of place 3", x.ifMoved(4, 0, 3), 1);
        Check.due("panel 3 brings as many at each place, and stands elsewhere", x.bestPlace(3, 0), 0);
        Check.due("panel 1, too", x.bestPlace(1, 0), 0);
        Counted y = Check.boardOf(10, "2/1,A=0,A-0");
        for (int panel = 0; panel < 10; panel++) {
            Check.due("panel " + panel + " of ten that are alike", y.bestPlace(panel, 2), 0);
        }
    }

    private static void promise22Bounds() {
        Check.sentence("Promise 22", "Returns the place");
        Counted x = Check.boardOf(9, "4/1,A=0");
        Check.put(x, "4/1,A-0,B+0");
        Check.due("of an empty scene", x.bestPlace(0, 0), 0);
        Check.due("the last place of ten", x.bestPlace(9, 4), 9);
        Check.due("the breaks there", x.count(3), 1);
        Check.due("the breaks in another scene", x.move(9, 0, 0), 2);
        Check.due("behind nine others of another scene", x.bestPlace(9, 4), 9);
        Check.due("alone in a scene", x.bestPlace(9, 0), 0);
        Counted y = Check.board("4/1,A>", "4/1,A>", "4/1,A<");
        y.move(2, 0, 0);
        Check.due("ahead of others of another scene", y.bestPlace(2, 4), 0);
        Counted z = Check.board("4/1,A+1,A-1", "4/1,A+1,A-1", "3/1,A+1");
        Check.due("behind others of another scene", z.bestPlace(2, 4), 2);
    }

    private static void promise22Refused() {
        Check.sentence("Promise 22", "UNKNOWN (panel or scene)");
        Counted x = story();
        x.takeAway(1);
        for (int panel : Check.wrong(-1, 1, 4, 10, 98, 99)) {
            Check.due("bestPlace(" + panel + ", 0)", x.bestPlace(panel, 0), Check.UNKNOWN);
        }
        for (int scene : Check.wrong(-1, 5)) {
            Check.due("bestPlace(0, " + scene + ")", x.bestPlace(0, scene), Check.UNKNOWN);
            Check.due("bestPlace(1, " + scene + ")", x.bestPlace(1, scene), Check.UNKNOWN);
        }
    }

    private static void dueCounts(String what, Counted x, int... due) {
        for (int index = 0; index < due.length; index++) {
            Check.due(what + ": count(" + index + ")", x.count(index), due[index]);
        }
    }

    private static void promise23Counts() {
        Check.sentence("Promise 23", "0 for panels on the board, 1 for panels so far, 2 for the sum of all durations,"
                + " 3 for breaks, 4 for events of all panels, 5 for props that are held behind the last panel, 6 to 10"
                + " for the breaks of the kinds 1 to 5, 11 for the states in the history, 12 for the length of the text");
        Counted x = Check.board("0/10,A+0,A+1,A+2", "1/20,B+0,B-1,C=2", "1/30,B>,B<", "2/40,D-9");
        x.takeAway(3);
        Check.dueText("the breaks", Check.breaks(x), "1:1:1:0:0 1:2:1:1:1 1:3:2:2:2 2:5:1:_:1 2:4:1:0:_");
        dueCounts("one of each kind", x, 3, 4, 60, 5, 8, 2, 1, 1, 1, 1, 1, 4, 8);
        Counted y = Check.board("0/99,A+0,B+0,A+0", "0/1,A>,A<,A>,A<,A=0", "0/1,C-3,C-4");
        dueCounts("some of each kind", y, 3, 3, 101, 7, 10, 1, 2, 2, 0, 0, 3, 3, 11);
        y.clearText();
        y.undo();
        dueCounts("behind undo()", y, 2, 2, 100, 5, 8, 1, 2, 0, 0, 0, 3, 2, 0);
    }

    private static void promise23PropsBehindTheLastPanel() {
        Check.sentence("Promise 23", "5 for props that are held behind the last panel");
        Counted x = Check.board("0/1", "0/1,A+0,B+1");
        x.holder(0, 0);
        Check.due("behind holder() of the first one", x.count(5), 2);
        x.moveScene(0, 4);
        x.move(1, 1, 0);
        Check.due("in another order", x.count(5), 2);
        Counted y = Check.board("0/1,A+0,A+1,A+2", "1/1,A-0,B-1");
        Check.due("where two were put down", y.count(5), 1);
        y.moveScene(1, 0);
        Check.due("where they are picked up at last", y.count(5), 3);
        Counted all = Check.board("0/1,A+0,B+1,C+2,D+3,A+4,B+5", "0/1,C+6,D+7,A+8,B+9");
        Check.due("all props", all.count(5), 10);
    }

    private static void promise23Bounds() {
        Check.sentence("Promise 23", "0 for panels on the board, 1 for panels so far, 2 for the sum of all durations");
        Counted x = Check.boardOf(10, "0/99,A-0,A-0,A-0,A-0,A-0,A-0");
        dueCounts("a full board", x, 10, 10, 990, 60, 60, 0, 0, 60, 0, 0, 0, 4, 28);
        for (int panel = 0; panel < 10; panel++) {
            x.takeAway(panel);
        }
        dueCounts("a board that is empty again", x, 0, 10, 0, 0, 0, 0, 0, 0, 0, 0, 0, 4, 28);
        Counted y = Check.boardOf(10, "0/1,A+0,A+0,A+0,A+0,A+0,A+0");
        dueCounts("picked up again and again", y, 10, 10, 10, 59, 60, 1, 59, 0, 0, 0, 0, 4, 27);
        Counted z = Check.boardOf(10, "0/1,A=0,B=0,A=0,B=0,A=0,B=0");
        dueCounts("drawn again and again", z, 10, 10, 10, 60, 60, 1, 0, 0, 60, 0, 0, 4, 27);
    }

    private static void promise23Refused() {
        Check.sentence("Promise 23", "BAD_VALUE");
        Counted x = story();
        for (int what : Check.wrong(-1, -2, 13, 14)) {
            Check.due("count(" + what + ")", x.count(what), Check.BAD_VALUE);
        }
    }
}

/** Promises 2 to 8: the acts on panels and scenes. */
public final class PanelsTest {
    private static final int MIN = Integer.MIN_VALUE;
    private static final int MAX = Integer.MAX_VALUE;

    public static void main(String[] args) {
        promise2PutPanel();
        promise2Full();
        promise3Redraw();
        promise4TakeAway();
        promise5Move();
        promise5MoveWrongInputs();
        promise6MoveScene();
        promise7Time();
        promise8Mend();
        promise8MendTakesTheLowestPanelFirst();
        promise8MendMovesTwiceAtMost();
        Check.end("PanelsTest");
    }

    private static void promise2PutPanel() {
        StoryPanels x = new StoryPanels();
        Check.write(x, "1/5,A+3");
        Check.due("2: putPanel()", x.putPanel(), 0);
        Check.due("2: putPanel() again, for the text stays", x.putPanel(), 1);
        Check.due("2: the text stays", x.count(12), 7);
        Check.write(x, "0/9");
        Check.due("2: putPanel() in an earlier scene", x.putPanel(), 2);
        Check.write(x, "1/6");
        Check.due("2: putPanel() behind the others", x.putPanel(), 3);
        Check.dueText("2: the order", Check.line(x), "2 0 1 3");
        Check.due("2: putPanel() is an act", x.count(11), 4);
        Check.due("2: a panel's events are its own", x.panel(0, 2), 1);
        Check.due("2: events of a panel without any", x.panel(3, 2), 0);
    }

    private static void promise2Full() {
        StoryPanels x = new StoryPanels();
        Check.write(x, "4/1");
        for (int number = 0; number < 10; number++) {
            Check.due("2: panel " + number + " of ten", x.putPanel(), number);
        }
        Check.due("2: the eleventh one", x.putPanel(), Check.FULL);
        Check.due("2: nothing comes of it", x.count(0), 10);
        Check.due("2: nor of its history", x.count(11), 4);
        x.clearText();
        Check.due("2: the fault is ahead of FULL", x.putPanel(), -100);
        Check.write(x, "4/1");
        for (int number = 10; number < 99; number++) {
            x.takeAway(number - 10);
            Check.due("2: panel " + number + " of ninety-nine", x.putPanel(), number);
        }
        x.takeAway(98);
        Check.due("2: the hundredth one", x.putPanel(), Check.FULL);
        Check.due("2: panels so far", x.count(1), 99);
        Check.due("2: panels on the board", x.count(0), 9);
        Check.due("2: undo of taking away", x.undo(), 3);
        Check.due("2: the hundredth one, with ten on the board", x.putPanel(), Check.FULL);
        Check.due("2: undo of putting", x.undo(), 2);
        Check.due("2: panels so far are of the state", x.count(1), 98);
        Check.due("2: so the number is free again", x.putPanel(), 98);
    }

    private static void promise3Redraw() {
        StoryPanels x = Check.board("1/5,A+3,B.", "1/6,A=3", "1/7", "2/8");
        Check.write(x, "1/44,C>,D<,C.");
        Check.due("3: redraw in its own scene", x.redraw(1), 3);
        Check.dueText("3: the place stays", Check.line(x), "0 1 2 3");
        Check.due("3: the duration becomes that of the text", x.panel(1, 1), 44);
        Check.due("3: the events become those of the text", x.event(1, 1, 0), 3);
        Check.due("3: no others are left", x.event(1, 3, 0), Check.UNKNOWN);
        Check.write(x, "2/1");
        Check.due("3: redraw into another scene", x.redraw(0), 0);
        Check.dueText("3: behind the others of that scene", Check.line(x), "1 2 3 0");
        Check.due("3: the scene", x.panel(0, 0), 2);
        Check.due("3: no event is left", x.panel(0, 2), 0);
        Check.due("3: the history", x.count(11), 4);
        x.undo();
        Check.dueText("3: redraw is undone", Check.line(x), "0 1 2 3");
        Check.due("3: and its events are back", x.panel(0, 2), 2);
        Check.write(x, "0/3,A.");
        Check.due("3: redraw into an earlier, empty scene", x.redraw(2), 1);
        Check.dueText("3: it begins the board", Check.line(x), "2 0 1 3");
        int before = x.count(11);
        Check.due("3: redraw that changes nothing is an act, too", x.redraw(2), 1);
        Check.due("3: the history then", x.count(11), Math.min(4, before + 1));
        for (int wrong : new int[] {-1, 4, 10, 99, 100, MIN, MAX}) {
            Check.due("3: redraw(" + wrong + ")", x.redraw(wrong), Check.UNKNOWN);
        }
        x.clearText();
        Check.due("3: UNKNOWN is ahead of the fault", x.redraw(4), Check.UNKNOWN);
        Check.due("3: the fault", x.redraw(3), -100);
    }

    private static void promise4TakeAway() {
        StoryPanels x = Check.board("1/5,A+3", "1/6,A=3", "0/7");
        Check.due("4: takeAway(1)", x.takeAway(1), 2);
        Check.due("4: the history", x.count(11), 4);
        Check.dueText("4: the order", Check.line(x), "2 0");
        Check.due("4: it was taken away", x.takeAway(1), Check.UNKNOWN);
        Check.due("4: it has no scene", x.panel(1, 0), Check.UNKNOWN);
        Check.due("4: takeAway(2)", x.takeAway(2), 1);
        Check.due("4: takeAway(0)", x.takeAway(0), 0);
        Check.due("4: panels so far", x.count(1), 3);
        for (int wrong : new int[] {-1, 0, 3, 10, 99, 100, MIN, MAX}) {
            Check.due("4: takeAway(" + wrong + ")", x.takeAway(wrong), Check.UNKNOWN);
        }
        Check.due("4: a new panel has a new number", Check.put(x, "1/1"), 3);
    }

    private static void promise5Move() {
        StoryPanels x = Check.board("0/1,A+0", "0/2,A=0", "0/3,A-0", "1/4", "1/5");
        Check.due("5: the breaks at first", x.count(3), 0);
        Check.due("5: move(0, 0, 2)", x.move(0, 0, 2), 1);
        Check.dueText("5: the order", Check.line(x), "1 2 0 3 4");
        Check.dueText("5: the breaks", Check.breaks(x), "1:3:0:0:0");
        Check.due("5: it is an act", x.count(11), 4);
        Check.due("5: where it stands already", x.move(0, 0, 2), Check.NONE);
        Check.due("5: move(0, 0, 1)", x.move(0, 0, 1), 2);
        Check.dueText("5: the breaks then", Check.breaks(x), "1:3:0:0:0 0:1:0:0:0");
        Check.due("5: move(0, 0, 0)", x.move(0, 0, 0), 0);
        Check.dueText("5: the order is as at first", Check.line(x), "0 1 2 3 4");
        Check.due("5: move(4, 1, 0), of two", x.move(4, 1, 0), 0);
        Check.dueText("5: the order of the other scene", Check.line(x), "0 1 2 4 3");
        Check.due("5: move(2, 1, 2), behind all of another scene", x.move(2, 1, 2), 0);
        Check.dueText("5: the order over two scenes", Check.line(x), "0 1 4 3 2");
        Check.due("5: its scene", x.panel(2, 0), 1);
        Check.due("5: move(0, 4, 0), of an empty scene", x.move(0, 4, 0), 1);
        Check.dueText("5: the order over three scenes", Check.line(x), "1 4 3 2 0");
        Check.due("5: move(2, 1, 0), in its scene to the front", x.move(2, 1, 0), 1);
        Check.dueText("5: the order behind it", Check.line(x), "1 2 4 3 0");
        Check.due("5: the last place of its scene is that without it", x.move(2, 1, 2), 1);
        Check.dueText("5: the order at last", Check.line(x), "1 4 3 2 0");
        Check.due("5: the events stay", x.event(2, 0, 1), 1);
        Check.due("5: the duration stays", x.panel(2, 1), 3);
    }

    private static void promise5MoveWrongInputs() {
        StoryPanels x = Check.board("0/1", "0/2", "1/3");
        x.takeAway(1);
        int before = x.undo();
        x.takeAway(1);
        for (int wrong : new int[] {-1, 1, 3, 10, 99, MIN, MAX}) {
            Check.due("5: move(" + wrong + ", 9, 9)", x.move(wrong, 9, 9), Check.UNKNOWN);
            Check.due("5: move(" + wrong + ", 0, 0)", x.move(wrong, 0, 0), Check.UNKNOWN);
        }
        for (int wrong : new int[] {-1, 5, MIN, MAX}) {
            Check.due("5: move(0, " + wrong + ", 0)", x.move(0, wrong, 0), Check.UNKNOWN);
            Check.due("5: move(0, " + wrong + ", -1)", x.move(0, wrong, -1), Check.UNKNOWN);
        }
        for (int wrong : new int[] {-1, 1, 2, MIN, MAX}) {
            Check.due("5: move(0, 0, " + wrong + "), alone in it", x.move(0, 0, wrong), Check.BAD_VALUE);
        }
        for (int wrong : new int[] {-1, 2, 3, MIN, MAX}) {
            Check.due("5: move(0, 1, " + wrong + "), behind one", x.move(0, 1, wrong), Check.BAD_VALUE);
        }
        for (int wrong : new int[] {-1, 1, MIN, MAX}) {
            Check.due("5: move(0, 4, " + wrong + "), of an empty scene", x.move(0, 4, wrong), Check.BAD_VALUE);
        }
        Check.due("5: move(0, 0, 0), where it stands", x.move(0, 0, 0), Check.NONE);
        Check.due("5: the history is as it was", x.count(11), before + 1);
        Check.dueText("5: the order is as it was", Check.line(x), "0 2");
    }

    private static void promise6MoveScene() {
        StoryPanels x = Check.board("0/1,A+0", "1/2,A=0", "2/3", "3/4", "4/5,A-0", "0/6,A=0");
        Check.due("6: moveScene(1, 3)", x.moveScene(1, 3), 0);
        Check.dueText("6: the order of the board", Check.line(x), "0 5 2 3 1 4");
        dueScenes(x, 0, 3, 1, 2, 4);
        Check.due("6: it is an act", x.count(11), 4);
        Check.due("6: where it stands already", x.moveScene(1, 3), Check.NONE);
        Check.due("6: moveScene(4, 0)", x.moveScene(4, 0), 1);
        Check.dueText("6: the breaks", Check.breaks(x), "4:2:0:0:0");
        Check.dueText("6: the order then", Check.line(x), "4 0 5 2 3 1");
        dueScenes(x, 1, 4, 2, 3, 0);
        Check.due("6: moveScene(4, 4)", x.moveScene(4, 4), 0);
        dueScenes(x, 0, 3, 1, 2, 4);
        Check.due("6: moveScene(0, 4)", x.moveScene(0, 4), 1);
        Check.dueText("6: the breaks at last", Check.breaks(x), "1:3:0:0:0");
        dueScenes(x, 4, 2, 0, 1, 3);
        x.undo();
        dueScenes(x, 0, 3, 1, 2, 4);
        Check.dueText("6: the order behind undo", Check.line(x), "0 5 2 3 1 4");
        Check.due("6: an empty scene moves, too", new StoryPanels().moveScene(2, 4), 0);
        int before = x.count(11);
        for (int wrong : new int[] {-1, 5, MIN, MAX}) {
            Check.due("6: moveScene(" + wrong + ", 0)", x.moveScene(wrong, 0), Check.UNKNOWN);
            Check.due("6: moveScene(" + wrong + ", 5)", x.moveScene(wrong, 5), Check.UNKNOWN);
            Check.due("6: moveScene(0, " + wrong + ")", x.moveScene(0, wrong), Check.BAD_VALUE);
        }
        Check.due("6: errors are no acts", x.count(11), before);
    }

    private static void dueScenes(StoryPanels x, int... places) {
        for (int scene = 0; scene < 5; scene++) {
            Check.due("6: the place of scene " + scene, x.scene(scene, 0), places[scene]);
        }
    }

    private static void promise7Time() {
        StoryPanels x = Check.board("0/1", "0/50", "0/99");
        Check.due("7: time(0, 99)", x.time(0, 99), 1);
        Check.due("7: the duration", x.panel(0, 1), 99);
        Check.due("7: it is an act", x.count(11), 4);
        Check.due("7: time(2, 1)", x.time(2, 1), 99);
        Check.due("7: where it is so", x.time(2, 1), Check.NONE);
        Check.due("7: time(1, 51)", x.time(1, 51), 50);
        Check.due("7: the sum", x.count(2), 151);
        x.undo();
        Check.due("7: the duration behind undo", x.panel(1, 1), 50);
        x.takeAway(1);
        int before = x.count(11);
        for (int wrong : new int[] {-1, 1, 3, 99, MIN, MAX}) {
            Check.due("7: time(" + wrong + ", 7)", x.time(wrong, 7), Check.UNKNOWN);
            Check.due("7: time(" + wrong + ", 100)", x.time(wrong, 100), Check.UNKNOWN);
        }
        for (int wrong : new int[] {-1, 0, 100, MIN, MAX}) {
            Check.due("7: time(0, " + wrong + ")", x.time(0, wrong), Check.BAD_VALUE);
        }
        Check.due("7: where it is so, at the bound", x.time(0, 99), Check.NONE);
        Check.due("7: errors and NONE are no acts", x.count(11), before);
    }

    private static void promise8Mend() {
        StoryPanels x = Check.board("1/1,A=0", "1/2,A+0", "0/3", "1/4,A-0");
        Check.due("8: the breaks ahead of it", x.count(3), 2);
        int before = x.count(11);
        String told = Check.told(x);
        Check.due("8: mend(1)", x.mend(1), 1);
        Check.dueText("8: the order", Check.line(x), "2 1 0 3");
        Check.due("8: the breaks behind it", x.count(3), 0);
        Check.due("8: the history", x.count(11), Math.min(4, before + 1));
        Check.due("8: mend(1) again", x.mend(1), Check.NONE);
        Check.due("8: mend of a scene without breaks", x.mend(0), Check.NONE);
        Check.due("8: mend of an empty scene", x.mend(3), Check.NONE);
        Check.dueText("8: NONE changes nothing", Check.line(x), "2 1 0 3");
        x.undo();
        Check.dueText("8: undo", Check.told(x), told);
        Check.due("8: a scene that brings no fewer breaks", x.mend(0), Check.NONE);
        for (int wrong : new int[] {-1, 5, MIN, MAX}) {
            Check.due("8: mend(" + wrong + ")", x.mend(wrong), Check.UNKNOWN);
        }
        Check.dueText("8: nothing has changed", Check.told(x), told);
    }

    private static void promise8MendTakesTheLowestPanelFirst() {
        // Any of the three could move and save the turn of A; the lowest one does, from the last place.
        StoryPanels x = Check.board("2/1,A.", "2/2,A>", "2/3,A<");
        x.move(0, 2, 2);
        Check.dueText("8: the order ahead of it", Check.line(x), "1 2 0");
        Check.due("8: the breaks ahead of it", x.count(3), 1);
        Check.due("8: mend(2)", x.mend(2), 1);
        Check.dueText("8: the stand comes between", Check.line(x), "1 0 2");
        // Here nothing but the first place, and no other panel, helps.
        StoryPanels z = Check.board("2/1,A+0", "2/1,A=0", "2/1,A=0");
        Check.due("8: the picking up at last", z.move(0, 2, 2), 2);
        Check.due("8: mend(2) to the first place", z.mend(2), 1);
        Check.dueText("8: the order then", Check.line(z), "0 1 2");
        // Panel 0 can't save any break. Panel 1 saves one at the places 2 and 3 and goes to 2:
        // 0 2 1 3 4. Now 1 can't save any more, but 2 can, at the places 3 and 4, and goes to 3.
        StoryPanels y = Check.board("2/1,B.", "2/2,A>", "2/3,A<", "2/4,A>", "2/5,A<");
        Check.due("8: three turns", y.count(3), 3);
        Check.due("8: mend(2) of three turns", y.mend(2), 2);
        Check.dueText("8: the order of it", Check.line(y), "0 1 3 2 4");
        Check.due("8: one turn is left", y.count(3), 1);
    }

    private static void promise8MendMovesTwiceAtMost() {
        StoryPanels x = Check.board("3/1,A-0", "3/1,A+0", "3/1,B-1", "3/1,B+1", "3/1,C-2", "3/1,C+2");
        Check.due("8: the breaks of three pairs", x.count(3), 3);
        String told = Check.told(x);
        Check.due("8: two moves", x.mend(3), 2);
        Check.dueText("8: the order of two moves", Check.line(x), "1 0 3 2 4 5");
        Check.due("8: one break is left", x.count(3), 1);
        Check.due("8: the one act of two moves", x.undo(), 3);
        Check.dueText("8: undo of both", Check.told(x), told);
        Check.due("8: both again", x.mend(3), 2);
        Check.due("8: the third one", x.mend(3), 1);
        Check.due("8: no break is left", x.count(3), 0);
        Check.due("8: nothing to mend is left", x.mend(3), Check.NONE);
    }
}

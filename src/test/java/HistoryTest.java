/** Promises 11 to 13: undo, keep and restore, and which calls are acts. */
public final class HistoryTest {
    public static void main(String[] args) {
        promise11Undo();
        promise11FourStatesAtMost();
        promise11EachActIsOneState();
        promise11WhatIsNoAct();
        promise12Keep();
        promise13Restore();
        promise13SnapshotAndHistoryAreApart();
        Check.end("HistoryTest");
    }

    /** A board on which every act finds something to do. */
    private static StoryPanels busyBoard() {
        StoryPanels x = Check.board("1/1,A=0", "1/2,A+0", "0/3,B>,B<", "1/4,A-0");
        Check.write(x, "2/9,C.");
        return x;
    }

    private static void promise11Undo() {
        StoryPanels x = new StoryPanels();
        Check.due("11: undo() of an empty history", x.undo(), Check.NONE);
        Check.put(x, "0/1,A+0");
        String one = Check.told(x);
        Check.put(x, "0/2,A=0");
        Check.write(x, "3/3");
        Check.due("11: undo()", x.undo(), 1);
        Check.dueText("11: the state then", Check.told(x), one);
        Check.due("11: the text is of no state", x.count(12), 3);
        Check.due("11: undo() again", x.undo(), 0);
        Check.due("11: panels so far", x.count(1), 0);
        Check.due("11: undo() at last", x.undo(), Check.NONE);
        Check.due("11: panels so far begin anew", x.putPanel(), 0);
    }

    private static void promise11FourStatesAtMost() {
        StoryPanels x = Check.board("0/1");
        for (int duration = 2; duration <= 9; duration++) {
            x.time(0, duration);
            Check.due("11: states behind time(0, " + duration + ")", x.count(11), Math.min(4, duration));
        }
        for (int left = 3; left >= 0; left--) {
            Check.due("11: undo()", x.undo(), left);
            Check.due("11: the duration", x.panel(0, 1), 5 + left);
        }
        Check.due("11: the oldest ones were dropped", x.undo(), Check.NONE);
        Check.due("11: the state stays", x.panel(0, 1), 5);
        x.time(0, 44);
        x.time(0, 55);
        Check.due("11: states of a history that was empty", x.count(11), 2);
        x.undo();
        x.time(0, 66);
        Check.due("11: a state is recorded behind the one before it", x.undo(), 1);
        Check.due("11: the duration then", x.panel(0, 1), 44);
        Check.due("11: undo of the first one", x.undo(), 0);
        Check.due("11: the first duration", x.panel(0, 1), 5);
    }

    private static int act(StoryPanels x, int which) {
        switch (which) {
            case 0: return x.putPanel();
            case 1: return x.redraw(1);
            case 2: return x.takeAway(2);
            case 3: return x.move(0, 4, 0);
            case 4: return x.moveScene(0, 2);
            case 5: return x.time(1, 77);
            case 6: return x.mend(1);
            default: return x.restore();
        }
    }

    private static void promise11EachActIsOneState() {
        for (int which = 0; which <= 7; which++) {
            StoryPanels x = busyBoard();
            x.keep();
            x.undo();
            x.undo();
            String before = Check.told(x);
            Check.put(x, "1/4,A-0");
            String middle = Check.told(x);
            Check.write(x, "2/9,C.");
            Check.due("11: act " + which + " is one", act(x, which) >= 0 ? 1 : 0, 1);
            Check.due("11: act " + which + " records one state", x.count(11), 4);
            Check.due("11: undo of act " + which, x.undo(), 3);
            Check.dueText("11: the state behind it", Check.told(x), middle);
            Check.due("11: undo of the one before", x.undo(), 2);
            Check.dueText("11: the state behind that", Check.told(x), before);
        }
    }

    private static void promise11WhatIsNoAct() {
        StoryPanels x = busyBoard();
        x.undo();
        String told = Check.told(x);
        x.type('x');
        x.clearText();
        x.keep();
        x.ifMoved(0, 1, 1);
        x.bestPlace(0, 1);
        x.bestPlace(0, 4);
        x.holder(0, 0);
        x.firstBreak(1, 2);
        Check.due("11: states behind calls that are no acts", x.count(11), 3);
        Check.dueText("11: nothing has changed", Check.told(x), told);
        x.putPanel();
        x.redraw(0);
        x.takeAway(50);
        x.move(0, 1, 0);
        x.move(0, 1, 9);
        x.moveScene(0, 0);
        x.time(0, 1);
        x.time(0, 0);
        x.mend(0);
        x.mend(7);
        Check.due("11: states behind errors and NONE", x.count(11), 3);
        Check.dueText("11: errors and NONE change nothing", Check.told(x), told);
    }

    private static void promise12Keep() {
        StoryPanels x = new StoryPanels();
        Check.due("12: keep() of an empty board", x.keep(), 0);
        Check.put(x, "0/1");
        Check.put(x, "1/2");
        Check.due("12: keep() of two panels", x.keep(), 2);
        x.takeAway(0);
        Check.due("12: keep() in place of the one that was", x.keep(), 1);
        Check.due("12: keep() is no act", x.count(11), 3);
        Check.put(x, "1/3");
        Check.due("12: restore() of the latest one", x.restore(), 1);
        Check.dueText("12: its panels", Check.line(x), "1");
        Check.due("12: panels so far are of the snapshot", x.count(1), 2);
    }

    private static void promise13Restore() {
        StoryPanels x = busyBoard();
        Check.due("13: restore() without a snapshot", x.restore(), Check.NONE);
        Check.due("13: it is no act then", x.count(11), 4);
        Check.due("13: keep()", x.keep(), 4);
        String told = Check.told(x);
        for (int which = 0; which <= 6; which++) {
            act(x, which);
            String changed = Check.told(x);
            Check.due("13: act " + which + " has changed the state", changed.equals(told) ? 0 : 1, 1);
            Check.due("13: restore()", x.restore(), 4);
            Check.dueText("13: the state of the snapshot", Check.told(x), told);
            Check.due("13: restore() is an act", x.undo(), 3);
            Check.dueText("13: undo of restore()", Check.told(x), changed);
            Check.due("13: restore() again, for the snapshot stays", x.restore(), 4);
            Check.dueText("13: the state again", Check.told(x), told);
        }
        Check.due("13: the text is of no state", x.count(12), 6);
        x.restore();
        Check.due("13: restore() that changes nothing is an act, too", x.undo(), 3);
        StoryPanels y = new StoryPanels();
        y.keep();
        Check.put(y, "0/1");
        Check.due("13: restore() of an empty board", y.restore(), 0);
        Check.due("13: states then", y.count(11), 2);
        Check.due("13: a new panel's number", Check.put(y, "0/1"), 0);
    }

    private static void promise13SnapshotAndHistoryAreApart() {
        StoryPanels x = Check.board("0/1");
        x.keep();
        x.restore();
        x.time(0, 2);
        Check.due("13: changes don't reach the snapshot", x.restore(), 1);
        Check.due("13: the duration", x.panel(0, 1), 1);
        x.undo();
        Check.due("13: nor the history", x.panel(0, 1), 2);
        x.undo();
        x.undo();
        x.undo();
        Check.due("13: the snapshot outlives the history", x.restore(), 1);
        Check.due("13: the panel is there", x.panel(0, 1), 1);
    }
}

/** Promises 11 to 13: undo, keep and restore, and which calls are acts. */
public final class HistoryTest {
    private static final int ACTS = 8;

    public static void main(String[] args) {
        promise11AnEmptyHistory();
        promise11StatesThatAreLeft();
        promise11FourStatesAtMost();
        promise11EachActIsOneState();
        promise11WhatIsNoAct();
        promise11WhatIsNoState();
        promise12Panels();
        promise12InPlaceOfTheOneThatWas();
        promise13NoSnapshot();
        promise13AnEmptyBoard();
        promise13BehindEachAct();
        promise13IsAnAct();
        promise13SnapshotAndHistoryAreApart();
        Check.end("HistoryTest");
    }

    /** A board with three states, on which every act finds something to do; the snapshot is another board. */
    private static Counted busyBoard() {
        Counted x = Check.board("1/1,A=0", "1/2,A+0");
        x.keep();
        x.takeAway(0);
        x.undo();
        x.undo();
        Check.put(x, "1/2,A+0");
        Check.put(x, "0/3,B>,B<");
        Check.write(x, "2/9,C.");
        return x;
    }

    private static int act(Counted x, int which) {
        switch (which) {
            case 0: return x.putPanel();
            case 1: return x.redraw(1);
            case 2: return x.takeAway(2);
            case 3: return x.move(0, 4, 0);
            case 4: return x.moveScene(0, 2);
            case 5: return x.time(1, 77);
            case 6: return x.mend(1);
            default: return x.restore();
        }
    }

    private static void promise11AnEmptyHistory() {
        Check.sentence("Promise 11", "NONE if the history is empty.");
        Counted x = new Counted();
        Check.due("undo() of a new object", x.undo(), Check.NONE);
        Check.put(x, "0/1,A+0");
        Check.due("undo() of the only state", x.undo(), 0);
        Check.due("undo() of none", x.undo(), Check.NONE);
        Check.due("undo() of none again", x.undo(), Check.NONE);
        Check.due("the panels", x.count(0), 0);
        Check.due("panels so far are of the state", x.count(1), 0);
        Check.due("the states", x.count(11), 0);
        Check.due("a panel that comes then", x.putPanel(), 0);
        Check.due("its undo()", x.undo(), 0);
    }

    private static void promise11StatesThatAreLeft() {
        Check.sentence("Promise 11", "Removes and restores the latest state of the history.");
        Counted x = new Counted();
        String[] told = new String[4];
        String[] texts = {"0/1,A+0", "0/2,A=0", "3/3", "1/4,B-0"};
        for (int panel = 0; panel < 4; panel++) {
            told[panel] = Check.told(x);
            Check.put(x, texts[panel]);
            Check.due("the states behind panel " + panel, x.count(11), panel + 1);
        }
        Check.sentence("Promise 11", "Returns the number of states that are left");
        for (int panel = 3; panel >= 0; panel--) {
            Check.due("undo() of panel " + panel, x.undo(), panel);
            Check.due("the states", x.count(11), panel);
            Check.dueText("the state then", Check.told(x), told[panel]);
        }
    }

    private static void promise11FourStatesAtMost() {
        Check.sentence("HISTORY", "A history of at most 4 states is kept; when one more is recorded, the oldest one"
                + " is dropped");
        for (int more = 0; more <= 6; more++) {
            Counted x = Check.board("0/1");
            for (int duration = 2; duration <= 4 + more; duration++) {
                x.time(0, duration);
                Check.due("the states behind " + duration + " acts", x.count(11), Math.min(4, duration));
            }
            for (int left = 3; left >= (more == 0 ? 1 : 0); left--) {
                Check.due("undo() of " + (4 + more) + " acts", x.undo(), left);
                Check.due("the duration behind it", x.panel(0, 1), more + left);
            }
            if (more > 0) {
                Check.due("the oldest state was dropped", x.undo(), Check.NONE);
                Check.due("the duration stays", x.panel(0, 1), more);
            }
        }
        Check.sentence("HISTORY", "undo() removes and restores the latest one");
        Counted y = Check.board("0/1");
        y.undo();
        y.putPanel();
        y.time(0, 44);
        y.time(0, 55);
        Check.due("undo() of the latest one", y.undo(), 2);
        y.time(0, 66);
        Check.due("the states of another act", y.count(11), 3);
        Check.due("undo() of that act", y.undo(), 2);
        Check.due("the duration then", y.panel(0, 1), 44);
        Check.due("undo() of the one before", y.undo(), 1);
        Check.due("the duration then", y.panel(0, 1), 1);
    }

    private static void promise11EachActIsOneState() {
        Check.sentence("HISTORY", "Each call of a method that is described as an act, and returns no error and not NONE,"
                + " records the state that was before it.");
        for (int which = 0; which < ACTS; which++) {
            Counted x = busyBoard();
            String before = Check.told(x);
            Check.due("the states before act " + which, x.count(11), 3);
            Check.due("act " + which + " finds something to do", act(x, which) >= 0 ? 1 : 0, 1);
            Check.due("the states behind act " + which, x.count(11), 4);
            Check.due("it has changed something", Check.told(x).equals(before) ? 0 : 1, 1);
            Check.due("undo() of act " + which, x.undo(), 3);
            Check.dueText("the state behind undo() of act " + which, Check.told(x), before);
            Check.due("undo() of the one before", x.undo(), 2);
            Check.dueText("its panels", Check.line(x), "0 1");
        }
    }

    private static void promise11WhatIsNoAct() {
        Check.sentence("HISTORY", "Each call of a method that is described as an act");
        Counted x = busyBoard();
        String told = Check.told(x);
        x.clearText();
        x.type('x');
        x.ifMoved(0, 1, 1);
        x.ifMoved(0, 4, 0);
        x.bestPlace(0, 1);
        x.bestPlace(0, 4);
        x.panel(0, 6);
        x.event(0, 0, 0);
        x.at(0);
        x.scene(1, 3);
        x.holder(0, 0);
        x.breakOf(0, 0);
        x.firstBreak(1, 2);
        Check.due("the states behind calls that are no acts", x.count(11), 3);
        Check.due("keep()", x.keep(), 3);
        Check.due("the states behind keep()", x.count(11), 3);
        Check.dueText("the state is as it was", Check.told(x), told);
        Check.due("undo() is no act: the states behind it", x.undo(), 2);
        Check.due("undo() again goes on back", x.undo(), 1);
        Check.due("the panels then", x.count(0), 1);
    }

    private static void promise11WhatIsNoState() {
        Check.sentence("HISTORY", "A state is everything but the text, the history and the snapshot.");
        Counted x = Check.board("0/1", "0/2");
        x.keep();
        x.time(0, 50);
        Check.write(x, "3/33");
        Check.due("undo()", x.undo(), 2);
        Check.due("the text stays behind undo()", x.count(12), 4);
        Check.due("undo()", x.undo(), 1);
        Check.due("the snapshot stays behind undo()", x.restore(), 2);
        Check.due("restore() leaves the states, and records one", x.count(11), 2);
        Check.due("the text stays behind restore()", x.count(12), 4);
        Check.due("a panel of that text", x.putPanel(), 2);
        Check.due("its scene", x.panel(2, 0), 3);
        Check.due("its duration", x.panel(2, 1), 33);
        Check.due("its undo()", x.undo(), 2);
        Check.due("undo() of restore()", x.undo(), 1);
        Check.due("the snapshot stays behind undo() of restore()", x.restore(), 2);
    }

    private static void promise12Panels() {
        Check.sentence("Promise 12", "Returns how many panels are on the board.");
        Counted x = new Counted();
        Check.due("keep() of an empty board", x.keep(), 0);
        Check.write(x, "2/1");
        for (int panels = 1; panels <= 10; panels++) {
            x.putPanel();
            Check.due("keep() of " + panels + " panels", x.keep(), panels);
        }
        x.takeAway(0);
        Check.due("keep() where one was taken away", x.keep(), 9);
        Check.due("the states", x.count(11), 4);
    }

    private static void promise12InPlaceOfTheOneThatWas() {
        Check.sentence("Promise 12", "Takes a snapshot of the state, in place of the one that was.");
        Counted x = Check.board("0/1", "1/2");
        x.keep();
        x.takeAway(0);
        Check.due("keep() again", x.keep(), 1);
        Check.put(x, "1/3");
        Check.due("restore() of the latest one", x.restore(), 1);
        Check.dueText("its panels", Check.line(x), "1");
        Check.due("its panels so far", x.count(1), 2);
        x.takeAway(1);
        Check.due("keep() of a board that is empty again", x.keep(), 0);
        Check.put(x, "1/3");
        Check.due("restore() of it", x.restore(), 0);
    }

    private static void promise13NoSnapshot() {
        Check.sentence("Promise 13", "NONE if there is no snapshot.");
        Counted x = new Counted();
        Check.due("restore() of a new object", x.restore(), Check.NONE);
        Check.put(x, "0/1");
        Check.due("restore() of a board with a history", x.restore(), Check.NONE);
        Check.due("the states", x.count(11), 1);
        Check.due("the panels", x.count(0), 1);
        x.undo();
        Check.due("restore() behind undo()", x.restore(), Check.NONE);
        Check.sentence("HISTORY", "There is one snapshot, empty at first.");
        Counted one = Check.board("0/1,A.", "0/2,B.");
        one.keep();
        one.takeAway(0);
        one.keep();
        one.undo();
        Check.due("the second keep() leaves no other one", one.restore(), 1);
        Check.due("restore() again brings the same one", one.restore(), 1);
        Check.dueText("its panels", Check.line(one), "1");
    }

    private static void promise13AnEmptyBoard() {
        Check.sentence("Promise 13", "Returns how many panels are on the board then");
        Counted x = new Counted();
        x.keep();
        Check.due("restore() of an empty board, on an empty board", x.restore(), 0);
        Check.due("the states", x.count(11), 1);
        Check.put(x, "0/1");
        Check.due("restore() of an empty board", x.restore(), 0);
        Check.due("the states", x.count(11), 3);
        Check.due("a new panel's number", Check.put(x, "0/1"), 0);
        Counted full = Check.boardOf(10, "4/4,A.");
        full.keep();
        for (int panel = 0; panel < 10; panel++) {
            full.takeAway(panel);
        }
        Check.due("restore() of ten panels", full.restore(), 10);
        Check.dueText("their order", Check.line(full), "0 1 2 3 4 5 6 7 8 9");
        Check.due("one more panel", full.putPanel(), Check.FULL);
    }

    private static void promise13BehindEachAct() {
        Check.sentence("Promise 13", "Restores the state of the snapshot, which stays.");
        for (int which = 0; which < ACTS; which++) {
            Counted x = busyBoard();
            x.takeAway(1);
            x.undo();
            Check.put(x, "1/5,A=0");
            x.keep();
            String told = Check.told(x);
            x.undo();
            act(x, which);
            Check.due("restore() behind act " + which, x.restore(), 4);
            Check.dueText("the state behind it", Check.told(x), told);
            x.takeAway(0);
            Check.due("restore() again", x.restore(), 4);
            Check.dueText("the state again", Check.told(x), told);
        }
    }

    private static void promise13IsAnAct() {
        Check.sentence("Promise 13", "This is an act.");
        Counted x = Check.board("0/1", "0/2");
        x.keep();
        Check.put(x, "1/3,A=9");
        String told = Check.told(x);
        Check.due("restore()", x.restore(), 2);
        Check.due("the states", x.count(11), 4);
        Check.due("undo()", x.undo(), 3);
        Check.dueText("the state behind it", Check.told(x), told);
        x.undo();
        Check.due("restore() of the same state", x.restore(), 2);
        Check.due("that changes nothing, and is recorded, too", x.count(11), 3);
    }

    private static void promise13SnapshotAndHistoryAreApart() {
        Check.sentence("Promise 13", "Restores the state of the snapshot, which stays.");
        Counted x = Check.board("0/1,A=0");
        x.keep();
        x.restore();
        x.time(0, 2);
        x.redraw(0);
        x.moveScene(0, 3);
        Check.due("changes don't reach the snapshot", x.restore(), 1);
        Check.due("the duration", x.panel(0, 1), 1);
        Check.due("the place of the scene", x.scene(0, 0), 0);
        x.undo();
        Check.due("nor does restore() reach the history", x.scene(0, 0), 3);
        x.undo();
        x.undo();
        Check.due("the duration of that state", x.panel(0, 1), 2);
        x.undo();
        Check.due("the history is empty", x.undo(), Check.NONE);
        Check.due("the snapshot outlives the history", x.restore(), 1);
        Check.due("the panel is there", x.panel(0, 1), 1);
    }
}

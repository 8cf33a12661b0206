/** Continuity: the breaks that promises 18 to 23 tell of. */
public final class BreaksTest {
    private static final int MIN = Integer.MIN_VALUE;
    private static final int MAX = Integer.MAX_VALUE;

    public static void main(String[] args) {
        picksUpAHeldProp();
        putsDownAPropThatItDoesNotHold();
        isDrawnWithAPropThatItDoesNotHold();
        holdsAPropUndrawn();
        turnsWithoutHavingStood();
        promise18Holder();
        promise19BreakOf();
        promise20FirstBreak();
        promise21IfMoved();
        promise22BestPlace();
        promise23Count();
        promise23MostBreaks();
        Check.end("BreaksTest");
    }

    private static void dueBreaks(String breaks, String... texts) {
        Check.dueText("19: breaks of " + String.join(" ", texts), Check.breaks(Check.board(texts)), breaks);
    }

    private static void picksUpAHeldProp() {
        dueBreaks("", "0/1,A+0,A-0,B+0");
        dueBreaks("0:1:1:0:1", "0/1,A+0,B+0");
        dueBreaks("0:1:0:0:1", "0/1,A+0,A+0");
        // In any case it holds the prop then: the one before doesn't any more.
        dueBreaks("0:1:1:0:1 0:2:0:0:2", "0/1,A+0,B+0,A-0");
        dueBreaks("0:1:1:0:1 1:3:0:0:0", "0/1,A+0,B+0", "0/1,A=0");
        dueBreaks("1:1:3:9:0", "0/1,C+9", "1/1,D+9");
    }

    private static void putsDownAPropThatItDoesNotHold() {
        dueBreaks("", "0/1,A+0", "0/1,A-0");
        dueBreaks("0:2:0:0:0", "0/1,A-0");
        // In any case nobody holds the prop then.
        dueBreaks("0:2:1:0:1 0:2:0:0:2", "0/1,A+0,B-0,A-0");
        dueBreaks("0:2:1:0:1", "0/1,A+0,B-0,C+0");
        dueBreaks("1:2:2:5:1", "4/1,C+5", "4/1,C-5,C-5");
    }

    private static void isDrawnWithAPropThatItDoesNotHold() {
        dueBreaks("", "0/1,A+0,A=0,A=0");
        dueBreaks("0:3:0:0:0", "0/1,A=0,A=0");
        // In any case it holds the prop then.
        dueBreaks("0:3:1:0:1 0:3:0:0:2", "0/1,A+0,B=0,A=0");
        dueBreaks("0:3:1:0:1", "0/1,A+0,B=0,B-0");
    }

    private static void holdsAPropUndrawn() {
        dueBreaks("1:4:0:3:_", "0/1,A+3", "0/1,A.");
        dueBreaks("", "0/1,A+3", "0/1");
        dueBreaks("", "0/1,A+3", "0/1,B.");
        dueBreaks("", "0/1,A+3", "0/1,A.,A=3");
        dueBreaks("", "0/1,A+3", "0/1,A>,A-3");
        // An event of another character with the prop is none of its own, but takes it away.
        dueBreaks("1:3:1:3:1", "0/1,A+3", "0/1,A.,B=3");
        // What it holds behind the events counts: it is drawn with 3, and B took 4.
        dueBreaks("1:1:1:4:1", "0/1,A+3,A+4", "0/1,A=3,B+4");
        // By characters, then by props, and behind the breaks of the events.
        dueBreaks("3:5:1:_:2 3:4:0:2:_ 3:4:0:7:_ 3:4:1:0:_ 3:4:1:9:_",
                "0/1,B+9,A+7", "1/1,B+0,B=9,A+2,A=7", "1/1,C+5", "2/1,A.,B>,B<");
        // The next panels bring it again, over scenes as well.
        dueBreaks("1:4:0:3:_ 2:4:0:3:_", "0/1,A+3", "0/1,A.", "3/1,A.");
        // Held then put down and held again in one panel: it has events with it.
        dueBreaks("", "0/1,A+3", "0/1,A-3,A+3,A.");
    }

    private static void turnsWithoutHavingStood() {
        dueBreaks("", "0/1,A>,A>", "0/1,A>");
        dueBreaks("0:5:0:_:1", "0/1,A>,A<");
        dueBreaks("0:5:0:_:1", "0/1,A<,A>");
        dueBreaks("0:5:0:_:1 0:5:0:_:2 0:5:0:_:3", "0/1,A<,A>,A<,A>");
        dueBreaks("", "0/1,A>,A.,A<");
        dueBreaks("", "0/1,A>,B<");
        dueBreaks("0:5:0:_:2", "0/1,A>,B.,A<");
        dueBreaks("1:5:0:_:0", "0/1,A>", "0/2,A<");
        dueBreaks("2:5:0:_:0", "0/1,A>", "0/2", "0/2,A<");
        dueBreaks("", "0/1,A>", "0/2,A.", "0/2,A<");
        // What was moved in a scene is forgotten as the next one begins.
        dueBreaks("", "0/1,A>", "1/2,A<");
        dueBreaks("2:5:0:_:0", "0/1,A>", "1/2,A<", "1/2,A>");
        // In any case it moved this way then, and a prop makes nobody stand.
        dueBreaks("0:5:0:_:1 1:5:0:_:2", "0/1,A>,A<", "0/1,A<,A+1,A>,A=1");
    }

    private static void promise18Holder() {
        StoryPanels x = Check.board("0/1,A+0,B+1", "0/1,A-0,B=1,C+0", "1/1,D+0,B-1", "1/1");
        int[][] due = {{0, 1}, {2, 1}, {3, Check.NONE}, {3, Check.NONE}};
        for (int panel = 0; panel < 4; panel++) {
            for (int prop = 0; prop < 2; prop++) {
                Check.due("18: holder(" + prop + ", " + panel + ")", x.holder(prop, panel), due[panel][prop]);
            }
            Check.due("18: holder(9, " + panel + ")", x.holder(9, panel), Check.NONE);
        }
        x.moveScene(1, 0);
        Check.due("18: behind a panel in the order of the board", x.holder(0, 2), 3);
        Check.due("18: nobody has picked it up yet", x.holder(1, 3), Check.NONE);
        Check.due("18: behind the last one", x.holder(0, 1), 2);
        x.takeAway(3);
        for (int wrong : new int[] {-1, 10, MIN, MAX}) {
            Check.due("18: holder(" + wrong + ", 0)", x.holder(wrong, 0), Check.UNKNOWN);
        }
        for (int wrong : new int[] {-1, 3, 4, 10, 99, MIN, MAX}) {
            Check.due("18: holder(0, " + wrong + ")", x.holder(0, wrong), Check.UNKNOWN);
        }
        StoryPanels y = Check.board("0/1,A+9,A+8,A+7,A+6,A+5,A+4", "0/1,D+0,D+1,D+2,D+3");
        for (int prop = 0; prop < 10; prop++) {
            Check.due("18: holder(" + prop + ", 1) of all props", y.holder(prop, 1), prop < 4 ? 3 : 0);
        }
    }

    private static void promise19BreakOf() {
        StoryPanels x = Check.board("1/1,C-4", "0/1,B>,D+2,B<,D.", "0/1,D.");
        int[][] due = {{1, 5, 1, Check.NONE, 2}, {2, 4, 3, 2, Check.NONE}, {0, 2, 2, 4, 0}};
        for (int rank = 0; rank < 3; rank++) {
            for (int what = 0; what < 5; what++) {
                Check.due("19: breakOf(" + rank + ", " + what + ")", x.breakOf(rank, what), due[rank][what]);
            }
        }
        for (int what = 0; what < 5; what++) {
            Check.due("19: breakOf(3, " + what + ")", x.breakOf(3, what), Check.NONE);
            Check.due("19: breakOf(MAX, " + what + ")", x.breakOf(MAX, what), Check.NONE);
            Check.due("19: breakOf(-1, " + what + ")", x.breakOf(-1, what), Check.BAD_VALUE);
            Check.due("19: breakOf(MIN, " + what + ")", x.breakOf(MIN, what), Check.BAD_VALUE);
        }
        for (int wrong : new int[] {-1, 5, MIN, MAX}) {
            Check.due("19: breakOf(0, " + wrong + ")", x.breakOf(0, wrong), Check.BAD_VALUE);
            Check.due("19: breakOf(3, " + wrong + ")", x.breakOf(3, wrong), Check.BAD_VALUE);
        }
        x.moveScene(1, 0);
        Check.dueText("19: in the order in which they come", Check.breaks(x), "0:2:2:4:0 1:5:1:_:2 2:4:3:2:_");
    }

    private static void promise20FirstBreak() {
        StoryPanels x = Check.board("2/1,C-4,C=4", "0/1,B>,B<,B>", "0/1,B<", "1/1,A+1", "4/1,A.");
        Check.dueText("20: the breaks", Check.breaks(x), "1:5:1:_:1 1:5:1:_:2 2:5:1:_:0 0:2:2:4:0 0:3:2:4:1 4:4:0:1:_");
        dueFirst(x, 0, 1, 5, 0);
        dueFirst(x, 1, Check.NONE, Check.NONE, Check.NONE);
        dueFirst(x, 2, 0, 2, 3);
        dueFirst(x, 3, Check.NONE, Check.NONE, Check.NONE);
        dueFirst(x, 4, 4, 4, 5);
        x.moveScene(2, 0);
        dueFirst(x, 2, 0, 2, 0);
        dueFirst(x, 0, 1, 5, 2);
        for (int wrong : new int[] {-1, 5, MIN, MAX}) {
            Check.due("20: firstBreak(" + wrong + ", 0)", x.firstBreak(wrong, 0), Check.UNKNOWN);
            Check.due("20: firstBreak(" + wrong + ", 3)", x.firstBreak(wrong, 3), Check.UNKNOWN);
        }
        for (int wrong : new int[] {-1, 3, MIN, MAX}) {
            Check.due("20: firstBreak(0, " + wrong + ")", x.firstBreak(0, wrong), Check.BAD_VALUE);
            Check.due("20: firstBreak(3, " + wrong + ")", x.firstBreak(3, wrong), Check.BAD_VALUE);
        }
    }

    private static void dueFirst(StoryPanels x, int scene, int panel, int kind, int ahead) {
        Check.due("20: firstBreak(" + scene + ", 0)", x.firstBreak(scene, 0), panel);
        Check.due("20: firstBreak(" + scene + ", 1)", x.firstBreak(scene, 1), kind);
        Check.due("20: firstBreak(" + scene + ", 2)", x.firstBreak(scene, 2), ahead);
    }

    private static void promise21IfMoved() {
        StoryPanels x = Check.board("0/1,A+0", "0/2,A=0", "0/3,A-0", "1/4,A>,A<");
        String told = Check.told(x);
        int[] due = {1, 3, 3};
        for (int place = 0; place < 3; place++) {
            Check.due("21: ifMoved(0, 0, " + place + ")", x.ifMoved(0, 0, place), due[place]);
        }
        Check.due("21: ifMoved(0, 1, 0)", x.ifMoved(0, 1, 0), 3);
        Check.due("21: ifMoved(0, 1, 1)", x.ifMoved(0, 1, 1), 2);
        Check.due("21: ifMoved(1, 1, 0)", x.ifMoved(1, 1, 0), 3);
        Check.due("21: ifMoved(1, 1, 1)", x.ifMoved(1, 1, 1), 2);
        Check.due("21: ifMoved(3, 4, 0)", x.ifMoved(3, 4, 0), 1);
        Check.dueText("21: nothing is moved", Check.told(x), told);
        Check.due("21: it is no act", x.count(11), 4);
        x.takeAway(2);
        for (int wrong : new int[] {-1, 2, 4, 10, 99, MIN, MAX}) {
            Check.due("21: ifMoved(" + wrong + ", 0, 0)", x.ifMoved(wrong, 0, 0), Check.UNKNOWN);
        }
        for (int wrong : new int[] {-1, 5, MIN, MAX}) {
            Check.due("21: ifMoved(0, " + wrong + ", -1)", x.ifMoved(0, wrong, -1), Check.UNKNOWN);
            Check.due("21: ifMoved(0, 0, " + wrong + ")", x.ifMoved(0, 0, wrong), Check.BAD_VALUE);
        }
        Check.due("21: ifMoved(0, 0, 2), of two panels", x.ifMoved(0, 0, 2), Check.BAD_VALUE);
        Check.due("21: ifMoved(0, 1, 2), of one panel and it", x.ifMoved(0, 1, 2), Check.BAD_VALUE);
        Check.due("21: ifMoved(0, 3, 1), of an empty scene", x.ifMoved(0, 3, 1), Check.BAD_VALUE);
    }

    private static void promise22BestPlace() {
        StoryPanels x = Check.board("0/1,A-0", "0/2,A=0", "0/3,A+0", "1/4,A>,A<", "1/5");
        String told = Check.told(x);
        Check.due("22: bestPlace(0, 0)", x.bestPlace(0, 0), 1);
        Check.due("22: bestPlace(1, 0)", x.bestPlace(1, 0), 0);
        Check.due("22: bestPlace(2, 0)", x.bestPlace(2, 0), 0);
        Check.due("22: bestPlace(3, 0) of four", x.bestPlace(3, 0), 0);
        Check.due("22: bestPlace(4, 0), of several the lowest", x.bestPlace(4, 0), 0);
        Check.due("22: bestPlace(4, 1), of several the lowest", x.bestPlace(4, 1), 0);
        Check.due("22: bestPlace(2, 1), all the same", x.bestPlace(2, 1), 0);
        Check.due("22: bestPlace(2, 3), of an empty scene", x.bestPlace(2, 3), 0);
        Check.dueText("22: nothing is moved", Check.told(x), told);
        x.takeAway(4);
        for (int wrong : new int[] {-1, 4, 5, 10, 99, MIN, MAX}) {
            Check.due("22: bestPlace(" + wrong + ", 0)", x.bestPlace(wrong, 0), Check.UNKNOWN);
        }
        for (int wrong : new int[] {-1, 5, MIN, MAX}) {
            Check.due("22: bestPlace(0, " + wrong + ")", x.bestPlace(0, wrong), Check.UNKNOWN);
        }
        StoryPanels y = Check.board("0/1,A-0", "1/1,A+0", "1/1,A=0", "1/1,A.");
        Check.due("22: bestPlace(0, 1) between others", y.bestPlace(0, 1), 2);
        Check.due("22: the breaks of that place", y.ifMoved(0, 1, 2), 0);
        StoryPanels z = Check.board("0/1,A-0", "1/1,A+0", "1/1,A=0");
        Check.due("22: bestPlace(0, 1) behind others", z.bestPlace(0, 1), 2);
        Check.due("22: bestPlace(1, 0), ahead of another", z.bestPlace(1, 0), 0);
    }

    private static void promise23Count() {
        StoryPanels x = Check.board("0/10,A+0,A+1,A+2", "1/20,B+0,B-1,C=2", "1/30,B>,B<", "2/40,D-9");
        x.takeAway(3);
        Check.dueText("23: the breaks", Check.breaks(x), "1:1:1:0:0 1:2:1:1:1 1:3:2:2:2 2:5:1:_:1 2:4:1:0:_");
        int[] due = {3, 4, 60, 5, 8, 2, 1, 1, 1, 1, 1, 4, 8};
        for (int what = 0; what < due.length; what++) {
            Check.due("23: count(" + what + ")", x.count(what), due[what]);
        }
        StoryPanels y = Check.board("0/99,A+0,B+0,A+0", "0/1,A>,A<,A>,A<,A=0", "0/1,C-3,C-4");
        int[] dueThen = {3, 3, 101, 7, 10, 1, 2, 2, 0, 0, 3, 3, 11};
        for (int what = 0; what < dueThen.length; what++) {
            Check.due("23: count(" + what + ") of others", y.count(what), dueThen[what]);
        }
        StoryPanels z = Check.board("0/1", "0/1,A+0,B+1");
        z.holder(0, 0);
        Check.due("23: count(5) goes through the whole board", z.count(5), 2);
        y.moveScene(0, 4);
        Check.due("23: count(5) in another order of scenes", y.count(5), 1);
        for (int wrong : new int[] {-1, 13, MIN, MAX}) {
            Check.due("23: count(" + wrong + ")", y.count(wrong), Check.BAD_VALUE);
        }
    }

    /** A board with as many breaks as one could find: none gets lost. */
    private static void promise23MostBreaks() {
        StoryPanels x = Check.board("0/1,A=0,A=1,A=2,A=3,A=4,A=5", "0/1,A=6,A=7,A=8,A=9");
        Check.write(x, "1/1,A>,A<,A>,A<,A>,A<");
        for (int panel = 2; panel < 10; panel++) {
            x.putPanel();
        }
        // Ten by being drawn, six undrawn in panel 1, then ten undrawn each, and each turn but the first.
        Check.due("23: all breaks", x.count(3), 10 + 6 + 8 * 10 + 8 * 6 - 1);
        Check.due("23: drawn", x.count(8), 10);
        Check.due("23: undrawn", x.count(9), 86);
        Check.due("23: turns", x.count(10), 47);
        Check.due("23: events", x.count(4), 58);
        Check.due("23: held", x.count(5), 10);
        Check.due("19: the last one's panel", x.breakOf(142, 0), 9);
        Check.due("19: the last one's prop", x.breakOf(142, 3), 9);
        Check.due("19: none behind it", x.breakOf(143, 0), Check.NONE);
    }
}

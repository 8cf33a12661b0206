/** ERRORS: the constants, the order of the checks, and that a call in vain changes nothing. */
public final class RefusedTest {
    /** How a board is made; it is made anew for each comparison. */
    private interface Setup {
        Counted make();
    }

    private interface Call {
        int on(Counted x);
    }

    public static void main(String[] args) {
        Check.sentence("ERRORS", "A call that returns an error or NONE changes nothing.");
        actsThatAreRefused();
        actsThatFindNothing();
        textsWithAFault();
        noMoreRoom();
        emptyHistories();
        questions();
        theOrderOfTheChecks();
        noneOnlyIfNoErrorApplies();
        theConstants();
        Check.end("RefusedTest");
    }

    /** Panel 1 was taken away; the history has four states, and the snapshot is another board. */
    private static Counted story() {
        Counted x = Check.board("0/5,A=3", "4/4");
        x.moveScene(3, 1);
        x.keep();
        x.undo();
        Check.put(x, "1/6,A>,A<");
        Check.put(x, "0/7");
        x.takeAway(1);
        x.undo();
        x.takeAway(1);
        Check.write(x, "2/9,C.");
        return x;
    }

    private static Counted withText(String text) {
        Counted x = story();
        Check.write(x, text);
        return x;
    }

    private static Counted tenPanels() {
        Counted x = new Counted();
        Check.put(x, "0/1,A.");
        x.keep();
        Check.write(x, "3/2");
        for (int panel = 1; panel < 10; panel++) {
            x.putPanel();
        }
        Check.write(x, "1/3");
        return x;
    }

    private static Counted ninetyNineEver() {
        Counted x = new Counted();
        Check.write(x, "3/2,B+1");
        x.putPanel();
        x.keep();
        for (int panel = 1; panel < 99; panel++) {
            x.putPanel();
            x.takeAway(panel - 1);
        }
        Check.write(x, "1/3");
        return x;
    }

    private static Counted withoutHistory() {
        Counted x = new Counted();
        Check.write(x, "1/3");
        x.keep();
        return x;
    }

    private static Counted withoutSnapshot() {
        return Check.board("1/3", "1/4,D=9");
    }

    /** One side of an object, so that two objects can be compared within their calls. */
    private static String tell(Counted x, int side) {
        StringBuilder told = new StringBuilder();
        if (side == 5) {
            told.append(x.restore()).append(' ');
        } else if (side == 6) {
            told.append(x.count(12)).append(' ').append(x.putPanel()).append(' ');
        } else {
            for (int undone = 0; undone < side; undone++) {
                told.append(x.undo()).append(' ');
            }
        }
        return told.append(x.count(11)).append(" | ").append(Check.told(x)).toString();
    }

    private static final String[] SIDES = {"the state", "the latest state of the history", "the second latest one",
        "the third latest one", "the oldest one", "the snapshot", "the text"};

    private static void changesNothing(String name, Setup setup, int due, Call call) {
        for (int side = 0; side < SIDES.length; side++) {
            Counted x = setup.make();
            Check.due(name, call.on(x), due);
            Check.dueText(SIDES[side] + " behind " + name, tell(x, side), tell(setup.make(), side));
        }
    }

    private static void actsThatAreRefused() {
        for (int panel : new int[] {-1, 1, 4, 99}) {
            changesNothing("redraw(" + panel + ")", RefusedTest::story, Check.UNKNOWN, x -> x.redraw(panel));
            changesNothing("takeAway(" + panel + ")", RefusedTest::story, Check.UNKNOWN, x -> x.takeAway(panel));
            changesNothing("move(" + panel + ", 1, 1)", RefusedTest::story, Check.UNKNOWN, x -> x.move(panel, 1, 1));
            changesNothing("time(" + panel + ", 8)", RefusedTest::story, Check.UNKNOWN, x -> x.time(panel, 8));
        }
        for (int scene : new int[] {-1, 5}) {
            changesNothing("move(0, " + scene + ", 0)", RefusedTest::story, Check.UNKNOWN, x -> x.move(0, scene, 0));
            changesNothing("moveScene(" + scene + ", 0)", RefusedTest::story, Check.UNKNOWN,
                    x -> x.moveScene(scene, 0));
            changesNothing("moveScene(0, " + scene + ")", RefusedTest::story, Check.BAD_VALUE,
                    x -> x.moveScene(0, scene));
            changesNothing("mend(" + scene + ")", RefusedTest::story, Check.UNKNOWN, x -> x.mend(scene));
        }
        for (int place : new int[] {-1, 2, 10}) {
            changesNothing("move(0, 0, " + place + ")", RefusedTest::story, Check.BAD_VALUE, x -> x.move(0, 0, place));
            changesNothing("move(0, 1, " + place + ")", RefusedTest::story, Check.BAD_VALUE, x -> x.move(0, 1, place));
        }
        for (int duration : new int[] {-1, 0, 100}) {
            changesNothing("time(0, " + duration + ")", RefusedTest::story, Check.BAD_VALUE, x -> x.time(0, duration));
        }
    }

    private static void actsThatFindNothing() {
        changesNothing("move(0, 0, 0) to where it stands", RefusedTest::story, Check.NONE, x -> x.move(0, 0, 0));
        changesNothing("move(3, 0, 1) to where it stands", RefusedTest::story, Check.NONE, x -> x.move(3, 0, 1));
        changesNothing("moveScene(4, 4) to where it stands", RefusedTest::story, Check.NONE, x -> x.moveScene(4, 4));
        changesNothing("time(0, 5), its own", RefusedTest::story, Check.NONE, x -> x.time(0, 5));
        for (int scene = 0; scene < 5; scene++) {
            int which = scene;
            changesNothing("mend(" + scene + ") that finds none", RefusedTest::story, Check.NONE, x -> x.mend(which));
        }
    }

    private static void textsWithAFault() {
        changesNothing("putPanel() of \"0/1,A\"", () -> withText("0/1,A"), -105, x -> x.putPanel());
        changesNothing("redraw(0) by \"0/1,A\"", () -> withText("0/1,A"), -105, x -> x.redraw(0));
        changesNothing("putPanel() of \"\"", () -> withText(""), -100, x -> x.putPanel());
        changesNothing("redraw(2) by \"\"", () -> withText(""), -100, x -> x.redraw(2));
        changesNothing("redraw(1) by \"\"", () -> withText(""), Check.UNKNOWN, x -> x.redraw(1));
        // Scene, duration and six events are fine here, and nothing of them may be taken.
        String tooMuch = "4/44,B+1,B=2,B-3,B.,B.,B.,";
        changesNothing("putPanel() of seven events", () -> withText(tooMuch), -125, x -> x.putPanel());
        changesNothing("redraw(0) by seven events", () -> withText(tooMuch), -125, x -> x.redraw(0));
    }

    private static void noMoreRoom() {
        changesNothing("putPanel() of an eleventh one", RefusedTest::tenPanels, Check.FULL, x -> x.putPanel());
        changesNothing("putPanel() of a hundredth one", RefusedTest::ninetyNineEver, Check.FULL, x -> x.putPanel());
        changesNothing("type() of a 61st character", () -> withText("0/1" + ".".repeat(57)), Check.FULL,
                x -> x.type('0'));
    }

    private static void emptyHistories() {
        changesNothing("undo() of an empty history", RefusedTest::withoutHistory, Check.NONE, x -> x.undo());
        changesNothing("undo() of a new object", Counted::new, Check.NONE, x -> x.undo());
        changesNothing("restore() without a snapshot", RefusedTest::withoutSnapshot, Check.NONE, x -> x.restore());
        changesNothing("restore() of a new object", Counted::new, Check.NONE, x -> x.restore());
    }

    private static void asks(String name, int due, Call call) {
        changesNothing(name, RefusedTest::story, due, call);
    }

    private static void questions() {
        asks("panel(1, 0)", Check.UNKNOWN, x -> x.panel(1, 0));
        asks("panel(0, 7)", Check.BAD_VALUE, x -> x.panel(0, 7));
        asks("event(1, 0, 0)", Check.UNKNOWN, x -> x.event(1, 0, 0));
        asks("event(0, 1, 0)", Check.UNKNOWN, x -> x.event(0, 1, 0));
        asks("event(0, 0, 3)", Check.BAD_VALUE, x -> x.event(0, 0, 3));
        asks("event(2, 0, 2)", Check.NONE, x -> x.event(2, 0, 2));
        asks("at(-1)", Check.BAD_VALUE, x -> x.at(-1));
        asks("at(3)", Check.NONE, x -> x.at(3));
        asks("scene(5, 0)", Check.UNKNOWN, x -> x.scene(5, 0));
        asks("scene(0, 5)", Check.BAD_VALUE, x -> x.scene(0, 5));
        asks("holder(10, 0)", Check.UNKNOWN, x -> x.holder(10, 0));
        asks("holder(9, 0)", Check.NONE, x -> x.holder(9, 0));
        asks("breakOf(-1, 0)", Check.BAD_VALUE, x -> x.breakOf(-1, 0));
        asks("breakOf(9, 0)", Check.NONE, x -> x.breakOf(9, 0));
        asks("firstBreak(5, 0)", Check.UNKNOWN, x -> x.firstBreak(5, 0));
        asks("firstBreak(0, 3)", Check.BAD_VALUE, x -> x.firstBreak(0, 3));
        asks("firstBreak(4, 0)", Check.NONE, x -> x.firstBreak(4, 0));
        asks("ifMoved(1, 0, 0)", Check.UNKNOWN, x -> x.ifMoved(1, 0, 0));
        asks("ifMoved(0, 0, 2)", Check.BAD_VALUE, x -> x.ifMoved(0, 0, 2));
        asks("bestPlace(1, 0)", Check.UNKNOWN, x -> x.bestPlace(1, 0));
        asks("bestPlace(0, 5)", Check.UNKNOWN, x -> x.bestPlace(0, 5));
        asks("count(13)", Check.BAD_VALUE, x -> x.count(13));
        // Those that answer are no acts, either.
        asks("ifMoved(0, 1, 1)", 2, x -> x.ifMoved(0, 1, 1));
        asks("bestPlace(2, 0)", 0, x -> x.bestPlace(2, 0));
        asks("holder(3, 2)", 0, x -> x.holder(3, 2));
    }

    private static void theConstants() {
        Counted x = tenPanels();
        x.takeAway(1);
        Check.sentence("ERRORS", "UNKNOWN = -1: There is no such panel (or it was taken away), scene, prop or event.");
        Check.due("UNKNOWN", StoryPanels.UNKNOWN, -1);
        Check.due("panel(10, 0)", x.panel(10, 0), -1);
        Check.due("panel(1, 0), which was taken away", x.panel(1, 0), -1);
        Check.due("scene(5, 0)", x.scene(5, 0), -1);
        Check.due("holder(10, 0)", x.holder(10, 0), -1);
        Check.due("event(0, 6, 0)", x.event(0, 6, 0), -1);
        Check.sentence("ERRORS", "BAD_VALUE = -2: Another argument is out of range.");
        Check.due("BAD_VALUE", StoryPanels.BAD_VALUE, -2);
        Check.due("time(0, 100)", x.time(0, 100), -2);
        Check.sentence("ERRORS", "FULL = -3: There is no more room.");
        Check.due("FULL", StoryPanels.FULL, -3);
        Check.due("putPanel() behind ten", tenPanels().putPanel(), -3);
        Check.sentence("ERRORS", "NOT_POSSIBLE = -4: This is not possible.");
        Check.due("NOT_POSSIBLE", StoryPanels.NOT_POSSIBLE, -4);
        Check.sentence("ERRORS", "NONE = -5: There is no such thing; not an error.");
        Check.due("NONE", StoryPanels.NONE, -5);
        Check.due("at(9) of nine", x.at(9), -5);
    }

    private static void theOrderOfTheChecks() {
        Check.sentence("ERRORS", "Where several errors can apply, the order of the @return line is the order of the"
                + " checks.");
        Counted x = tenPanels();
        x.clearText();
        Check.due("putPanel(): the fault, then FULL", x.putPanel(), -100);
        x.takeAway(1);
        Check.due("redraw(1): UNKNOWN, then the fault", x.redraw(1), Check.UNKNOWN);
        Check.due("move(1, 0, 11): UNKNOWN, then BAD_VALUE", x.move(1, 0, 11), Check.UNKNOWN);
        Check.due("move(0, 5, 11): UNKNOWN, then BAD_VALUE", x.move(0, 5, 11), Check.UNKNOWN);
        Check.due("moveScene(5, 5): UNKNOWN, then BAD_VALUE", x.moveScene(5, 5), Check.UNKNOWN);
        Check.due("time(1, 0): UNKNOWN, then BAD_VALUE", x.time(1, 0), Check.UNKNOWN);
        Check.due("panel(1, 7): UNKNOWN, then BAD_VALUE", x.panel(1, 7), Check.UNKNOWN);
        Check.due("event(1, 0, 3): UNKNOWN, then BAD_VALUE", x.event(1, 0, 3), Check.UNKNOWN);
        Check.due("event(0, 6, 3): UNKNOWN, then BAD_VALUE", x.event(0, 6, 3), Check.UNKNOWN);
        Check.due("scene(5, 5): UNKNOWN, then BAD_VALUE", x.scene(5, 5), Check.UNKNOWN);
        Check.due("firstBreak(5, 3): UNKNOWN, then BAD_VALUE", x.firstBreak(5, 3), Check.UNKNOWN);
        Check.due("ifMoved(1, 0, 11): UNKNOWN, then BAD_VALUE", x.ifMoved(1, 0, 11), Check.UNKNOWN);
        Check.due("ifMoved(0, 5, 11): UNKNOWN, then BAD_VALUE", x.ifMoved(0, 5, 11), Check.UNKNOWN);
    }

    private static void noneOnlyIfNoErrorApplies() {
        Check.sentence("ERRORS", "NONE is no error; it is returned only if no error applies.");
        Counted x = Check.board("0/5,A.");
        Check.due("event(0, 0, 2)", x.event(0, 0, 2), Check.NONE);
        Check.due("event(0, 0, 3)", x.event(0, 0, 3), Check.BAD_VALUE);
        Check.due("at(1)", x.at(1), Check.NONE);
        Check.due("at(-1) of an empty board", new Counted().at(-1), Check.BAD_VALUE);
        Check.due("holder(0, 0)", x.holder(0, 0), Check.NONE);
        Check.due("holder(10, 0)", x.holder(10, 0), Check.UNKNOWN);
        Check.due("breakOf(0, 0)", x.breakOf(0, 0), Check.NONE);
        Check.due("breakOf(0, 5)", x.breakOf(0, 5), Check.BAD_VALUE);
        Check.due("firstBreak(0, 0)", x.firstBreak(0, 0), Check.NONE);
        Check.due("firstBreak(0, 3)", x.firstBreak(0, 3), Check.BAD_VALUE);
        Check.due("mend(0)", x.mend(0), Check.NONE);
        Check.due("mend(5)", x.mend(5), Check.UNKNOWN);
    }
}

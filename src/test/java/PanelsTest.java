/** Promises 1 to 4 and 7: a new object, and the acts on one panel. */
public final class PanelsTest {
    private static final String SIX_EVENTS = "1/5,A+0,A=0,B>,B.,C<,A-0";

    public static void main(String[] args) {
        promise1ANewObject();
        promise1ObjectsAreApart();
        promise2BehindTheOthers();
        promise2TheTextStays();
        promise2ItsNumber();
        promise2TheFault();
        promise2TenOnTheBoard();
        promise2NinetyNineEver();
        promise3DurationAndEvents();
        promise3TheTextStays();
        promise3ItsOwnScene();
        promise3AnotherScene();
        promise3Refused();
        promise3AFullBoard();
        promise4TakeAway();
        promise4Unknown();
        promise7Time();
        promise7Refused();
        onTheBoardOrTakenAway();
        whatAPanelHas();
        theOrderOfTheBoard();
        fiveHundredAndTwelveCalls();
        Check.end("PanelsTest");
    }

    private static void promise1ANewObject() {
        Check.sentence("Promise 1", "Creates an empty board.");
        Counted x = new Counted();
        for (int what = 0; what <= 12; what++) {
            Check.due("count(" + what + ")", x.count(what), 0);
        }
        for (int scene = 0; scene < 5; scene++) {
            for (int what = 1; what <= 4; what++) {
                Check.due("scene(" + scene + ", " + what + ")", x.scene(scene, what), 0);
            }
            for (int what = 0; what <= 2; what++) {
                Check.due("firstBreak(" + scene + ", " + what + ")", x.firstBreak(scene, what), Check.NONE);
            }
            Check.due("mend(" + scene + ")", x.mend(scene), Check.NONE);
        }
        for (int rank = 0; rank <= 10; rank++) {
            Check.due("at(" + rank + ")", x.at(rank), Check.NONE);
            Check.due("breakOf(" + rank + ", 0)", x.breakOf(rank, 0), Check.NONE);
        }
        for (int panel = -1; panel <= 10; panel++) {
            Check.due("panel(" + panel + ", 0)", x.panel(panel, 0), Check.UNKNOWN);
            Check.due("event(" + panel + ", 0, 0)", x.event(panel, 0, 0), Check.UNKNOWN);
            Check.due("takeAway(" + panel + ")", x.takeAway(panel), Check.UNKNOWN);
            Check.due("holder(0, " + panel + ")", x.holder(0, panel), Check.UNKNOWN);
        }
        Check.due("undo(), for the history is empty", x.undo(), Check.NONE);
        Check.due("restore(), for the snapshot is empty", x.restore(), Check.NONE);
        Check.due("clearText(), for the text is empty", x.clearText(), 0);

        Check.sentence("PANELS AND SCENES", "The scenes stand in an order (at first 0, 1, 2, 3, 4).");
        for (int scene = 0; scene < 5; scene++) {
            Check.due("scene(" + scene + ", 0)", x.scene(scene, 0), scene);
        }
    }

    private static void promise1ObjectsAreApart() {
        Check.sentence("Promise 1", "Creates an empty board.");
        Counted x = Check.board("0/1,A=0", "1/2");
        x.keep();
        x.moveScene(1, 0);
        Counted y = new Counted();
        Check.due("count(0) beside another object", y.count(0), 0);
        Check.due("count(1) beside another object", y.count(1), 0);
        Check.due("count(11) beside another object", y.count(11), 0);
        Check.due("count(12) beside another object", y.count(12), 0);
        Check.due("scene(1, 0) beside another object", y.scene(1, 0), 1);
        Check.due("restore() beside another object", y.restore(), Check.NONE);
        Check.put(y, "0/99");
        Check.dueText("the other object's panels", Check.line(x), "1 0");
        Check.due("the other object's break", x.count(3), 1);
        Check.due("the other object's duration", x.panel(0, 1), 1);
    }

    private static void promise2BehindTheOthers() {
        Check.sentence("Promise 2", "Puts the panel of the text, which stays, behind the others of its scene.");
        Counted x = Check.board("1/5,A+3", "0/9", "1/6", "4/1", "1/7", "3/2");
        Check.dueText("the order of the board", Check.line(x), "1 0 2 4 5 3");
        int[] scenes = {1, 0, 1, 4, 1, 3};
        int[] durations = {5, 9, 6, 1, 7, 2};
        int[] events = {1, 0, 0, 0, 0, 0};
        int[] places = {0, 0, 1, 0, 2, 0};
        for (int panel = 0; panel < 6; panel++) {
            Check.due("the scene of panel " + panel, x.panel(panel, 0), scenes[panel]);
            Check.due("the duration of panel " + panel, x.panel(panel, 1), durations[panel]);
            Check.due("the events of panel " + panel, x.panel(panel, 2), events[panel]);
            Check.due("the place of panel " + panel, x.panel(panel, 3), places[panel]);
        }
        x.moveScene(4, 0);
        Check.put(x, "4/1");
        Check.put(x, "0/1");
        Check.dueText("the order in another order of scenes", Check.line(x), "3 6 1 7 0 2 4 5");
        Check.sentence("Promise 2", "This is an act.");
        Counted y = new Counted();
        Check.put(y, "2/5");
        Check.due("the states behind one panel", y.count(11), 1);
        Check.due("undo()", y.undo(), 0);
        Check.due("the panels behind undo()", y.count(0), 0);
    }

    private static void promise2TheTextStays() {
        Check.sentence("Promise 2", "Puts the panel of the text, which stays, behind the others of its scene.");
        Counted x = Check.board("1/5,A+3");
        Check.due("the length of the text", x.count(12), 7);
        Check.due("putPanel() again", x.putPanel(), 1);
        Check.due("a character behind the same text", x.type(','), 8);
        Check.due("a panel of the text that ends too early", x.putPanel(), -108);
        x.type('B');
        x.type('.');
        Check.due("a panel of the longer text", x.putPanel(), 2);
        Check.due("its events", x.panel(2, 2), 2);
        Check.due("the events of the first one", x.panel(0, 2), 1);
    }

    private static void promise2ItsNumber() {
        Check.sentence("Promise 2", "Returns its number");
        Counted x = new Counted();
        Check.write(x, "0/1");
        Check.due("the first one", x.putPanel(), 0);
        Check.due("the second one", x.putPanel(), 1);
        x.takeAway(1);
        Check.due("the next one, where the latest was taken away", x.putPanel(), 2);
        x.takeAway(0);
        x.takeAway(2);
        Check.due("the next one, on a board that is empty again", x.putPanel(), 3);
        Check.due("panels so far", x.count(1), 4);
        Check.due("a panel that was taken away stays away", x.panel(1, 0), Check.UNKNOWN);
    }

    private static void promise2TheFault() {
        Check.sentence("Promise 2", "-100 minus the fault of the text if it has one (which is an error)");
        Counted x = new Counted();
        Check.due("the fault of the empty text, the lowest one", x.putPanel(), -100);
        Check.write(x, "0/1,A.,B");
        Check.due("a fault at the end", x.putPanel(), -108);
        Check.write(x, "0/12,A+0,B-1,C=2,D+3,A-4,B=9" + ".".repeat(32));
        Check.due("the length of a full text", x.count(12), 60);
        Check.due("the highest fault, in a text that is full", x.putPanel(), -128);
        Check.due("no panel comes of it", x.count(0), 0);
        Check.due("nor a number", x.count(1), 0);
        Check.due("nor a state", x.count(11), 0);
    }

    private static void promise2TenOnTheBoard() {
        Check.sentence("Promise 2", "FULL if there are 10, or have been 99.");
        Counted x = new Counted();
        Check.write(x, "4/1");
        for (int number = 0; number < 10; number++) {
            Check.due("panel " + number + " of ten", x.putPanel(), number);
        }
        Check.due("the eleventh one", x.putPanel(), Check.FULL);
        Check.due("the panels then", x.count(0), 10);
        Check.due("the panels so far then", x.count(1), 10);
        Check.due("the places of the scene then", x.scene(4, 1), 10);
        Check.write(x, "0/1");
        Check.due("one for another scene", x.putPanel(), Check.FULL);
        Check.write(x, "0/1,");
        Check.due("a fault is looked for first", x.putPanel(), -104);
        x.clearText();
        Check.due("and so is that of the empty text", x.putPanel(), -100);
        x.takeAway(4);
        Check.write(x, "0/1");
        Check.due("one, where one was taken away", x.putPanel(), 10);
        Check.due("one more", x.putPanel(), Check.FULL);
        Check.dueText("the order of the board", Check.line(x), "10 0 1 2 3 5 6 7 8 9");
    }

    private static void promise2NinetyNineEver() {
        Check.sentence("Promise 2", "FULL if there are 10, or have been 99.");
        Counted x = new Counted();
        Check.write(x, "3/7");
        for (int number = 0; number < 99; number++) {
            Check.due("panel " + number + " of ninety-nine", x.putPanel(), number);
            if (number < 97) {
                x.takeAway(number);
            }
        }
        Check.due("panels so far", x.count(1), 99);
        Check.due("panels on the board", x.count(0), 2);
        Check.due("the hundredth one", x.putPanel(), Check.FULL);
        Check.due("the latest one's duration", x.panel(98, 1), 7);
        Check.due("redraw of the latest one", x.redraw(98), 0);
        x.takeAway(97);
        Check.due("taking the latest one away", x.takeAway(98), 0);
        Check.due("the hundredth one, on an empty board", x.putPanel(), Check.FULL);
        x.clearText();
        Check.due("a fault is looked for first", x.putPanel(), -100);
        Check.write(x, "3/7");
        Check.due("undo of the latest taking away", x.undo(), 3);
        Check.due("the panel that comes back", x.at(0), 98);
        x.undo();
        x.undo();
        Check.due("undo of the putting", x.undo(), 0);
        Check.due("panels so far are of the state", x.count(1), 98);
        Check.due("so the latest number is free again", x.putPanel(), 98);
        Check.due("and none behind it", x.putPanel(), Check.FULL);
    }

    private static void promise3DurationAndEvents() {
        Check.sentence("Promise 3", "its duration and its events become those of the text");
        Counted x = Check.board("1/5,A+3,B.", "1/6");
        Check.write(x, "1/99,C>,D-8,C.");
        Check.due("redraw of two events to three", x.redraw(0), 3);
        Check.due("the duration", x.panel(0, 1), 99);
        int[][] events = {{2, 3, Check.NONE}, {3, 1, 8}, {2, 5, Check.NONE}};
        for (int event = 0; event < 3; event++) {
            for (int what = 0; what < 3; what++) {
                Check.due("event(0, " + event + ", " + what + ")", x.event(0, event, what), events[event][what]);
            }
        }
        Check.due("the other panel's duration", x.panel(1, 1), 6);
        Check.due("the other panel's events", x.panel(1, 2), 0);
        Check.sentence("Promise 3", "Returns how many events it has then");
        Check.write(x, "1/1");
        Check.due("redraw to no event", x.redraw(0), 0);
        Check.due("its events", x.panel(0, 2), 0);
        Check.due("event(0, 0, 0)", x.event(0, 0, 0), Check.UNKNOWN);
        Check.due("its break is gone", x.count(3), 0);
        Check.write(x, SIX_EVENTS);
        Check.due("redraw to six events", x.redraw(1), 6);
        Check.due("the kind of the sixth one", x.event(1, 5, 1), 1);
        Check.write(x, "1/1,D<");
        Check.due("redraw of six events to one", x.redraw(1), 1);
        Check.due("the second one is gone", x.event(1, 1, 0), Check.UNKNOWN);
        Check.due("the first one", x.event(1, 0, 0), 3);
        Check.due("the text stays", x.count(12), 6);
    }

    private static void promise3TheTextStays() {
        Check.sentence("Promise 3", "Draws a panel anew by the text, which stays");
        Counted x = Check.board("0/5", "0/6", "1/7");
        Check.write(x, "0/8,A.");
        Check.due("redraw(0)", x.redraw(0), 1);
        Check.due("the length of the text", x.count(12), 6);
        Check.due("redraw(1) by the same text", x.redraw(1), 1);
        Check.due("its duration", x.panel(1, 1), 8);
        Check.due("redraw(2) by the same text, in another scene", x.redraw(2), 1);
        Check.due("a character behind the same text", x.type(','), 7);
        Check.due("redraw(0) by the text that ends too early", x.redraw(0), -107);
        x.type('B');
        x.type('>');
        Check.due("redraw(0) by the longer text", x.redraw(0), 2);
        Check.due("putPanel() of the same text", x.putPanel(), 3);
        Check.due("its events", x.panel(3, 2), 2);
        Check.due("the events of panel 1", x.panel(1, 2), 1);
    }

    private static void promise3ItsOwnScene() {
        Check.sentence("Promise 3", "its number stays, and its place, if the scene of the text is its own");
        Counted x = Check.board("0/9", "1/5,A+3,B.", "1/6,A=3", "1/7", "2/8");
        Check.write(x, "1/44,C>");
        for (int panel = 1; panel <= 3; panel++) {
            Check.due("redraw(" + panel + ")", x.redraw(panel), 1);
            Check.dueText("the order behind it", Check.line(x), "0 1 2 3 4");
            Check.due("the place of it", x.panel(panel, 3), panel - 1);
            Check.due("the duration of it", x.panel(panel, 1), 44);
        }
        Check.due("panels so far", x.count(1), 5);
        Check.sentence("Promise 3", "This is an act.");
        Check.due("the states", x.count(11), 4);
        Check.due("undo()", x.undo(), 3);
        Check.due("the duration is back", x.panel(3, 1), 7);
        Check.due("redraw that changes something", x.redraw(3), 1);
        Check.due("undo() of it", x.undo(), 3);
        x.undo();
        x.redraw(1);
        Check.due("redraw that changes nothing is recorded, too", x.count(11), 3);
    }

    private static void promise3AnotherScene() {
        Check.sentence("Promise 3", "otherwise it goes behind the others of that scene");
        Counted x = Check.board("1/5,A+3,B.", "1/6,A=3", "1/7", "2/8", "2/9");
        Check.write(x, "2/1");
        Check.due("redraw(0) into a later scene", x.redraw(0), 0);
        Check.dueText("the order of the board", Check.line(x), "1 2 3 4 0");
        Check.due("its scene", x.panel(0, 0), 2);
        Check.due("its place", x.panel(0, 3), 2);
        x.undo();
        Check.dueText("the order behind undo()", Check.line(x), "0 1 2 3 4");
        Check.due("its events behind undo()", x.panel(0, 2), 2);
        Check.write(x, "1/1");
        x.redraw(3);
        Check.dueText("the order behind redraw(3) into an earlier scene", Check.line(x), "0 1 2 3 4");
        Check.due("its scene", x.panel(3, 0), 1);
        Check.due("its place", x.panel(3, 3), 3);
        Check.due("the place of the next one", x.panel(4, 3), 0);
        Check.write(x, "0/3,A.");
        Check.due("redraw(2) into an empty scene", x.redraw(2), 1);
        Check.dueText("the order then", Check.line(x), "2 0 1 3 4");
        Check.write(x, "4/3");
        Check.due("redraw(0) into an empty scene at the end", x.redraw(0), 0);
        Check.dueText("the order at last", Check.line(x), "2 1 3 4 0");
        Check.due("the scene that it left", x.scene(1, 1), 2);
    }

    private static void promise3Refused() {
        Check.sentence("Promise 3", "UNKNOWN; -100 minus the fault of the text if it has one (which is an error)");
        Counted x = Check.board("1/5,A+3", "1/6", "1/7");
        x.takeAway(1);
        String told = Check.told(x);
        for (int panel : Check.wrong(-1, 1, 3, 10, 98, 99)) {
            Check.write(x, "0/1");
            Check.due("redraw(" + panel + ")", x.redraw(panel), Check.UNKNOWN);
            x.clearText();
            Check.due("redraw(" + panel + ") by the empty text", x.redraw(panel), Check.UNKNOWN);
        }
        Check.due("redraw(0) by the empty text", x.redraw(0), -100);
        Check.write(x, "0/1,A+");
        Check.due("redraw(0) by a text that ends too early", x.redraw(0), -106);
        Check.write(x, "1/50");
        x.type('0');
        Check.due("redraw(2) by a text with too much", x.redraw(2), -104);
        Check.dueText("nothing is changed", Check.told(x), told);
        Check.due("the states", x.count(11), 4);
    }

    private static void promise3AFullBoard() {
        Check.sentence("PANELS AND SCENES", "There are at most 10 panels on the board");
        Counted x = Check.boardOf(10, "0/1");
        Check.write(x, "4/2,A.");
        Check.due("redraw(0) of ten panels", x.redraw(0), 1);
        Check.dueText("the order then", Check.line(x), "1 2 3 4 5 6 7 8 9 0");
        Check.due("redraw(9) of ten panels", x.redraw(9), 1);
        Check.dueText("the order then", Check.line(x), "1 2 3 4 5 6 7 8 0 9");
        Check.due("the panels then", x.count(0), 10);
    }

    private static void promise4TakeAway() {
        Check.sentence("Promise 4", "Takes a panel away.");
        Counted x = Check.board("1/5,A+3", "1/6,A=3", "0/7", "1/8", "4/9,A-3");
        Check.due("takeAway(1), between others", x.takeAway(1), 4);
        Check.dueText("the order", Check.line(x), "2 0 3 4");
        Check.due("the place of the next one", x.panel(3, 3), 1);
        Check.due("the tick of the next one", x.panel(3, 4), 12);
        Check.due("takeAway(2), the first one of the board", x.takeAway(2), 3);
        Check.due("takeAway(0), the first one of its scene", x.takeAway(0), 2);
        Check.due("what it picked up isn't held any more", x.count(7), 1);
        Check.due("takeAway(4), the last one of the board", x.takeAway(4), 1);
        Check.due("takeAway(3), the only one", x.takeAway(3), 0);
        Check.dueText("the order of an empty board", Check.line(x), "");
        Check.due("panels so far", x.count(1), 5);
        Check.due("the sum of all durations", x.count(2), 0);
        Check.due("a new panel has a new number", Check.put(x, "1/1"), 5);
        Check.sentence("Promise 4", "Returns how many panels are on the board then");
        Counted y = Check.boardOf(10, "2/3,B.");
        for (int panel = 9; panel >= 0; panel--) {
            Check.due("takeAway(" + panel + ") of ten", y.takeAway(panel), panel);
        }
        Check.sentence("Promise 4", "This is an act.");
        Check.due("undo() of the latest one", y.undo(), 3);
        Check.dueText("it is there again", Check.line(y), "0");
        Check.due("and its event", y.event(0, 0, 1), 5);
        y.undo();
        Check.dueText("the one before, too", Check.line(y), "0 1");
    }

    private static void promise4Unknown() {
        Check.sentence("Promise 4", "UNKNOWN");
        Counted x = Check.board("1/5", "0/7", "1/8");
        x.takeAway(0);
        for (int panel : Check.wrong(-1, 0, 3, 10, 98, 99)) {
            Check.due("takeAway(" + panel + ")", x.takeAway(panel), Check.UNKNOWN);
        }
        Check.dueText("nothing is changed", Check.line(x), "1 2");
        x.takeAway(1);
        x.takeAway(2);
        Check.due("takeAway(2) again, of an empty board", x.takeAway(2), Check.UNKNOWN);
        Check.due("takeAway(-1) of an empty board", x.takeAway(-1), Check.UNKNOWN);
        x.undo();
        Check.due("takeAway(2), where undo() brought it back", x.takeAway(2), 0);
    }

    private static void promise7Time() {
        Check.sentence("Promise 7", "Gives a panel another duration.");
        Counted x = Check.board("0/1", "0/50", "0/99");
        Check.due("time(0, 99), the longest one", x.time(0, 99), 1);
        Check.due("the duration", x.panel(0, 1), 99);
        Check.due("time(2, 1), the shortest one", x.time(2, 1), 99);
        Check.due("the duration", x.panel(2, 1), 1);
        Check.due("time(1, 51)", x.time(1, 51), 50);
        Check.due("the sum", x.count(2), 151);
        Check.sentence("Promise 7", "Returns the previous one");
        Check.due("time(1, 2)", x.time(1, 2), 51);
        Check.sentence("Promise 7", "This is an act.");
        Check.due("undo()", x.undo(), 3);
        Check.due("the duration behind it", x.panel(1, 1), 51);
        x.undo();
        Check.due("the duration behind one more", x.panel(1, 1), 50);
        Check.sentence("Promise 7", "NONE if it is so already.");
        Check.due("time(1, 50)", x.time(1, 50), Check.NONE);
        Check.due("time(0, 99), the longest one", x.time(0, 99), Check.NONE);
        Check.due("time(2, 1), the shortest one", x.time(2, 1), Check.NONE);
        Check.due("the states", x.count(11), 2);
    }

    private static void promise7Refused() {
        Counted x = Check.board("0/1", "0/50");
        x.takeAway(1);
        Check.sentence("Promise 7", "UNKNOWN; BAD_VALUE");
        for (int panel : Check.wrong(-1, 1, 2, 10, 98, 99)) {
            Check.due("time(" + panel + ", 7)", x.time(panel, 7), Check.UNKNOWN);
            Check.due("time(" + panel + ", 100), UNKNOWN comes first", x.time(panel, 100), Check.UNKNOWN);
            Check.due("time(" + panel + ", 0), UNKNOWN comes first", x.time(panel, 0), Check.UNKNOWN);
        }
        Check.sentence("Promise 7", "duration: 1 to 99");
        for (int duration : Check.wrong(-1, 0, 100, 101, -99)) {
            Check.due("time(0, " + duration + ")", x.time(0, duration), Check.BAD_VALUE);
        }
        Check.due("the duration is as it was", x.panel(0, 1), 1);
        Check.due("the states", x.count(11), 3);
    }

    /** What each method with a panel answers for one that isn't on the board. */
    private static void dueUnknown(String what, Counted x, int panel) {
        Check.due(what + ": redraw", x.redraw(panel), Check.UNKNOWN);
        Check.due(what + ": takeAway", x.takeAway(panel), Check.UNKNOWN);
        Check.due(what + ": move", x.move(panel, 0, 0), Check.UNKNOWN);
        Check.due(what + ": time", x.time(panel, 5), Check.UNKNOWN);
        Check.due(what + ": panel", x.panel(panel, 0), Check.UNKNOWN);
        Check.due(what + ": event", x.event(panel, 0, 0), Check.UNKNOWN);
        Check.due(what + ": holder", x.holder(0, panel), Check.UNKNOWN);
        Check.due(what + ": ifMoved", x.ifMoved(panel, 0, 0), Check.UNKNOWN);
        Check.due(what + ": bestPlace", x.bestPlace(panel, 0), Check.UNKNOWN);
    }

    private static void onTheBoardOrTakenAway() {
        Check.sentence("PANELS AND SCENES", "a panel is on the board, or was taken away");
        Counted x = Check.board("0/1,A.", "0/2,B.", "0/3,C.");
        dueUnknown("the one behind the latest", x, 3);
        x.takeAway(2);
        dueUnknown("the latest, which was taken away", x, 2);
        x.takeAway(0);
        dueUnknown("the first, which was taken away", x, 0);
        x.undo();
        Check.due("the first, where undo() brought it back", x.panel(0, 1), 1);
        dueUnknown("the latest, which is still away", x, 2);
        Check.put(x, "0/4,D.");
        dueUnknown("the one that was taken away, where another one was put", x, 2);
        Check.due("the other one", x.panel(3, 1), 4);
        x.undo();
        dueUnknown("the other one behind undo()", x, 3);
        Counted full = Check.boardOf(10, "4/1,A.");
        for (int panel : new int[] {-1, 10, 98, 99}) {
            dueUnknown("number " + panel + " of ten panels", full, panel);
        }
        Check.due("the tenth one", full.panel(9, 3), 9);
    }

    private static void whatAPanelHas() {
        Check.sentence("PANELS AND SCENES", "A panel has a scene (0 to 4), a duration (1 to 99 ticks), and 0 to 6 events in"
                + " their order.");
        String[] texts = {"0/1", "1/99,A+9", "2/9,B-8,A=7", "3/10,C>,C.,C<", "4/50,D.,D.,D+0,D-0", "4/1,A.,B.,C.,D.,A.",
            "0/99,D<,C>,B=6,A-5,B+4,C."};
        Counted x = Check.board(texts);
        for (int panel = 0; panel < texts.length; panel++) {
            Check.dueText("panel " + panel, textOf(x, panel), texts[panel]);
        }
        Check.write(x, "2/33");
        x.redraw(6);
        Check.dueText("the six events are gone", textOf(x, 6), "2/33");
        x.undo();
        Check.dueText("and are back", textOf(x, 6), texts[6]);
        Check.sentence("PANELS AND SCENES", "There are at most 10 panels on the board, and at most 99 ever, numbered from"
                + " 0");
        Counted y = Check.boardOf(10, "1/1");
        Check.due("an eleventh one", y.putPanel(), Check.FULL);
        for (int panel = 0; panel < 89; panel++) {
            y.takeAway(panel);
            Check.due("another one", y.putPanel(), panel + 10);
        }
        Check.due("panels so far", y.count(1), 99);
        y.takeAway(89);
        Check.due("a hundredth one", y.putPanel(), Check.FULL);
        Check.dueText("the ninety-ninth one is there", textOf(y, 98), "1/1");
    }

    /** The text of which a panel was made, told by what panel() and event() answer. */
    private static String textOf(Counted x, int panel) {
        StringBuilder text = new StringBuilder();
        text.append(x.panel(panel, 0)).append('/').append(x.panel(panel, 1));
        for (int event = 0; event < x.panel(panel, 2); event++) {
            text.append(',').append("ABCD".charAt(x.event(panel, event, 0)));
            text.append("+-=><.".charAt(x.event(panel, event, 1)));
            int prop = x.event(panel, event, 2);
            text.append(prop == Check.NONE ? "" : String.valueOf(prop));
        }
        return text.toString();
    }

    private static void theOrderOfTheBoard() {
        Check.sentence("PANELS AND SCENES", "The order of the board is that of the scenes, and in each of the panels of"
                + " its row.");
        Counted x = Check.board("4/1", "3/2", "2/3", "1/4", "0/5", "0/6", "1/7", "2/8", "3/9", "4/10");
        Check.dueText("the order at first", Check.line(x), "4 5 3 6 2 7 1 8 0 9");
        x.moveScene(4, 0);
        x.moveScene(0, 4);
        x.moveScene(1, 2);
        Check.dueText("the order of 4, 2, 1, 3, 0", Check.line(x), "0 9 2 7 3 6 1 8 4 5");
        x.move(9, 2, 1);
        Check.dueText("behind a move from the first scene to the second one", Check.line(x), "0 2 9 7 3 6 1 8 4 5");
        Check.sentence("PANELS AND SCENES", "The panels of a scene stand in a row, with places from 0.");
        int[] places = {0, 0, 0, 0, 0, 1, 1, 2, 1, 1};
        for (int panel = 0; panel < 10; panel++) {
            Check.due("the place of panel " + panel, x.panel(panel, 3), places[panel]);
        }
    }

    private static void fiveHundredAndTwelveCalls() {
        Check.sentence("What it is", "An object is used for at most 512 calls after it has been made");
        Counted x = new Counted();
        x.type('0');
        x.type('/');
        x.type('1');
        x.putPanel();
        for (int call = 5; call <= 510; call++) {
            Check.due("time() as call " + call, x.time(0, call % 2 == 0 ? 1 : 99), call % 2 == 0 ? 99 : 1);
        }
        Check.due("undo() as call 511", x.undo(), 3);
        Check.due("panel() as call 512", x.panel(0, 1), 99);
    }
}

/** Promises 5, 6 and 8: what moves panels and scenes. */
public final class MovesTest {
    public static void main(String[] args) {
        promise5Moves();
        promise5IsAnAct();
        promise5TheBreaksThen();
        promise5Unknown();
        promise5PlacesOfItsOwnScene();
        promise5PlacesOfAnotherScene();
        promise5PlacesOfAnEmptyScene();
        promise5ThereAlready();
        promise6MovesAScene();
        promise6EmptyScenes();
        promise6IsAnAct();
        promise6Refused();
        promise8FewerBreaks();
        promise8TheLowestPanel();
        promise8ItsBestPlace();
        promise8TwoMoves();
        promise8Scenes();
        promise8IsAnAct();
        Check.end("MovesTest");
    }

    private static Counted prop() {
        return Check.board("0/1,A+0", "0/2,A=0", "0/3,A-0", "1/4", "1/5");
    }

    private static void promise5Moves() {
        Check.sentence("Promise 5", "it is taken out, and stands at a place of a scene then");
        Counted x = prop();
        int[][] moves = {{0, 0, 2}, {0, 0, 1}, {0, 0, 0}, {4, 1, 0}, {2, 1, 2}, {0, 4, 0}, {2, 1, 0}, {2, 1, 2},
            {3, 1, 2}, {1, 4, 0}, {0, 3, 0}, {1, 3, 1}};
        String[] lines = {"1 2 0 3 4", "1 0 2 3 4", "0 1 2 3 4", "0 1 2 4 3", "0 1 4 3 2", "1 4 3 2 0", "1 2 4 3 0",
            "1 4 3 2 0", "1 4 2 3 0", "4 2 3 1 0", "4 2 3 0 1", "4 2 3 0 1"};
        for (int index = 0; index < moves.length; index++) {
            int[] move = moves[index];
            String call = "move(" + move[0] + ", " + move[1] + ", " + move[2] + "), the " + index + "th";
            x.move(move[0], move[1], move[2]);
            Check.dueText(call + ": the order", Check.line(x), lines[index]);
            Check.due(call + ": the scene", x.panel(move[0], 0), move[1]);
            Check.due(call + ": the place", x.panel(move[0], 3), move[2]);
        }
        Check.due("the duration stays", x.panel(2, 1), 3);
        Check.due("the events stay", x.event(2, 0, 1), 1);
        Check.due("the panels stay", x.count(0), 5);
        Check.due("the panels of scene 1", x.scene(1, 1), 3);
        Check.due("the panels of scene 0", x.scene(0, 1), 0);
    }

    private static void promise5IsAnAct() {
        Check.sentence("Promise 5", "This is an act.");
        Counted x = Check.board("0/1,A.", "0/2,B.");
        Check.due("move(0, 0, 1)", x.move(0, 0, 1), 0);
        Check.due("the states", x.count(11), 3);
        Check.due("move(0, 3, 0)", x.move(0, 3, 0), 0);
        Check.due("undo()", x.undo(), 3);
        Check.dueText("the order then", Check.line(x), "1 0");
        Check.due("the scene then", x.panel(0, 0), 0);
        Check.due("undo() again", x.undo(), 2);
        Check.dueText("the order at first", Check.line(x), "0 1");
    }

    private static void promise5TheBreaksThen() {
        Check.sentence("Promise 5", "Returns how many breaks the board has then");
        Counted x = prop();
        Check.due("the breaks at first", x.count(3), 0);
        Check.due("move(0, 0, 2)", x.move(0, 0, 2), 1);
        Check.dueText("the breaks", Check.breaks(x), "1:3:0:0:0");
        Check.due("move(0, 0, 1)", x.move(0, 0, 1), 2);
        Check.dueText("the breaks then", Check.breaks(x), "1:3:0:0:0 0:1:0:0:0");
        Check.due("move(0, 0, 0)", x.move(0, 0, 0), 0);
        Check.due("move(0, 4, 0), behind the other scenes", x.move(0, 4, 0), 1);
        Check.due("move(2, 1, 0)", x.move(2, 1, 0), 1);
        Check.due("move(1, 2, 0)", x.move(1, 2, 0), 3);
    }

    private static void promise5Unknown() {
        Check.sentence("Promise 5", "UNKNOWN (panel or scene)");
        Counted x = Check.board("0/1", "0/2", "1/3");
        x.takeAway(1);
        for (int panel : Check.wrong(-1, 1, 3, 10, 98, 99)) {
            Check.due("move(" + panel + ", 1, 0)", x.move(panel, 1, 0), Check.UNKNOWN);
            Check.due("move(" + panel + ", 5, 0)", x.move(panel, 5, 0), Check.UNKNOWN);
            Check.due("move(" + panel + ", 1, -1), UNKNOWN comes first", x.move(panel, 1, -1), Check.UNKNOWN);
        }
        for (int scene : Check.wrong(-1, 5)) {
            Check.due("move(0, " + scene + ", 0)", x.move(0, scene, 0), Check.UNKNOWN);
            Check.due("move(0, " + scene + ", -1), UNKNOWN comes first", x.move(0, scene, -1), Check.UNKNOWN);
            Check.due("move(0, " + scene + ", 11), UNKNOWN comes first", x.move(0, scene, 11), Check.UNKNOWN);
        }
        Check.dueText("the order is as it was", Check.line(x), "0 2");
    }

    private static void dueBadPlaces(Counted x, int panel, int scene, int... near) {
        for (int place : Check.wrong(near)) {
            Check.due("move(" + panel + ", " + scene + ", " + place + ")", x.move(panel, scene, place),
                    Check.BAD_VALUE);
        }
    }

    private static void promise5PlacesOfItsOwnScene() {
        Check.sentence("Promise 5", "place: 0 up to the number of panels of the scene, without this one");
        Counted alone = Check.board("0/1", "1/2");
        dueBadPlaces(alone, 0, 0, -1, 1, 2);
        Counted x = Check.board("0/1", "0/2", "0/3");
        dueBadPlaces(x, 0, 0, -1, 3, 4);
        dueBadPlaces(x, 2, 0, -1, 3, 4);
        Check.due("move(0, 0, 2), the last place of three", x.move(0, 0, 2), 0);
        Check.dueText("the order then", Check.line(x), "1 2 0");
        Check.due("move(2, 0, 0), the first place", x.move(2, 0, 0), 0);
        Check.dueText("the order then", Check.line(x), "2 1 0");
        Counted full = Check.boardOf(10, "3/1");
        dueBadPlaces(full, 0, 3, -1, 10, 11);
        Check.due("move(0, 3, 9), the last place of ten", full.move(0, 3, 9), 0);
        Check.dueText("the order then", Check.line(full), "1 2 3 4 5 6 7 8 9 0");
        Check.due("move(9, 3, 0), the first place of ten", full.move(9, 3, 0), 0);
        Check.dueText("the order then", Check.line(full), "9 1 2 3 4 5 6 7 8 0");
    }

    private static void promise5PlacesOfAnotherScene() {
        Check.sentence("Promise 5", "place: 0 up to the number of panels of the scene, without this one");
        Counted x = Check.board("0/1", "0/2", "0/3", "1/4", "1/5");
        dueBadPlaces(x, 0, 1, -1, 3, 4);
        Check.due("move(0, 1, 2), behind two others", x.move(0, 1, 2), 0);
        Check.dueText("the order then", Check.line(x), "1 2 3 4 0");
        Counted full = Check.boardOf(10, "3/1");
        full.move(4, 0, 0);
        dueBadPlaces(full, 4, 3, -1, 10, 11);
        dueBadPlaces(full, 5, 0, -1, 2, 3);
        Check.due("move(4, 3, 9), behind nine others", full.move(4, 3, 9), 0);
        Check.dueText("the order then", Check.line(full), "0 1 2 3 5 6 7 8 9 4");
    }

    private static void promise5PlacesOfAnEmptyScene() {
        Check.sentence("Promise 5", "place: 0 up to the number of panels of the scene, without this one");
        Counted x = Check.board("2/1", "2/2");
        for (int scene : new int[] {0, 1, 3, 4}) {
            dueBadPlaces(x, 0, scene, -1, 1, 2);
            Check.due("move(0, " + scene + ", 0)", x.move(0, scene, 0), 0);
            Check.due("the place", x.panel(0, 5), scene < 2 ? 0 : 1);
            x.undo();
        }
    }

    private static void promise5ThereAlready() {
        Check.sentence("Promise 5", "NONE if it stands there already.");
        Counted x = Check.board("0/1,A=0", "0/2", "1/3");
        Check.due("move(0, 0, 0)", x.move(0, 0, 0), Check.NONE);
        Check.due("move(1, 0, 1)", x.move(1, 0, 1), Check.NONE);
        Check.due("move(2, 1, 0)", x.move(2, 1, 0), Check.NONE);
        Check.due("the states", x.count(11), 3);
        Check.due("the same place of another scene is another one", x.move(0, 1, 0), 1);
        Check.dueText("the order then", Check.line(x), "1 0 2");
        Check.due("the same place in the order of the board, at the end of the scene ahead", x.move(0, 0, 1), 1);
        Check.dueText("the order is the same", Check.line(x), "1 0 2");
        Check.due("but the scene is another", x.panel(0, 0), 0);
    }

    private static Counted scenes() {
        return Check.board("0/1,A+0", "1/2,A=0", "2/3", "3/4", "4/5,A-0", "0/6,A=0");
    }

    private static void dueScenes(Counted x, int... places) {
        for (int scene = 0; scene < 5; scene++) {
            Check.due("the place of scene " + scene, x.scene(scene, 0), places[scene]);
        }
    }

    private static void promise6MovesAScene() {
        Check.sentence("Promise 6", "Moves a scene to another place in the order of scenes; the others keep their order.");
        Counted x = scenes();
        Check.due("moveScene(1, 3)", x.moveScene(1, 3), 0);
        Check.dueText("the order of the board", Check.line(x), "0 5 2 3 1 4");
        dueScenes(x, 0, 3, 1, 2, 4);
        Check.due("moveScene(4, 0), from the last place to the first one", x.moveScene(4, 0), 1);
        Check.dueText("the breaks", Check.breaks(x), "4:2:0:0:0");
        Check.dueText("the order", Check.line(x), "4 0 5 2 3 1");
        dueScenes(x, 1, 4, 2, 3, 0);
        Check.due("moveScene(4, 4), from the first place to the last one", x.moveScene(4, 4), 0);
        dueScenes(x, 0, 3, 1, 2, 4);
        Check.due("moveScene(0, 4)", x.moveScene(0, 4), 1);
        Check.dueText("the breaks at last", Check.breaks(x), "1:3:0:0:0");
        dueScenes(x, 4, 2, 0, 1, 3);
        Check.dueText("the order at last", Check.line(x), "2 3 1 4 0 5");
        Check.due("the place in the scene stays", x.panel(5, 3), 1);
        Check.due("the scene of a panel stays", x.panel(5, 0), 0);
        Check.sentence("Promise 6", "Moves a scene to another place in the order of scenes; the others keep their order.");
        for (int from = 0; from < 5; from++) {
            for (int to = 0; to < 5; to++) {
                dueMoved(from, to);
            }
        }
    }

    private static void dueMoved(int from, int to) {
        Counted x = Check.board("0/1", "1/1", "2/1", "3/1", "4/1");
        Check.due("moveScene(" + from + ", " + to + ")", x.moveScene(from, to), from == to ? Check.NONE : 0);
        StringBuilder rest = new StringBuilder("01234").deleteCharAt(from);
        String order = rest.insert(to, from).toString();
        Check.dueText("moveScene(" + from + ", " + to + "): the order", Check.line(x).replace(" ", ""), order);
        for (int scene = 0; scene < 5; scene++) {
            Check.due("moveScene(" + from + ", " + to + "): the place of " + scene, x.scene(scene, 0),
                    order.indexOf('0' + scene));
        }
    }

    private static void promise6EmptyScenes() {
        Check.sentence("Promise 6", "Moves a scene to another place in the order of scenes; the others keep their order.");
        Counted x = new Counted();
        Check.due("moveScene(2, 4) of an empty board", x.moveScene(2, 4), 0);
        dueScenes(x, 0, 1, 4, 2, 3);
        Check.put(x, "2/1");
        Check.put(x, "4/1");
        Check.dueText("panels that come then", Check.line(x), "1 0");
        Check.due("moveScene(3, 0) of an empty scene", x.moveScene(3, 0), 0);
        dueScenes(x, 1, 2, 4, 0, 3);
        Check.dueText("the order of the board stays", Check.line(x), "1 0");
        Counted full = Check.boardOf(10, "1/1");
        full.moveScene(1, 4);
        Check.dueText("all ten in one scene", Check.line(full), "0 1 2 3 4 5 6 7 8 9");
    }

    private static void promise6IsAnAct() {
        Check.sentence("Promise 6", "This is an act.");
        Counted x = Check.board("0/1", "1/1");
        Check.due("moveScene(1, 0)", x.moveScene(1, 0), 0);
        Check.due("the states", x.count(11), 3);
        Check.due("undo()", x.undo(), 2);
        dueScenes(x, 0, 1, 2, 3, 4);
        Check.dueText("the order of the board then", Check.line(x), "0 1");
        Check.sentence("Promise 6", "NONE if it stands there already.");
        for (int scene = 0; scene < 5; scene++) {
            Check.due("moveScene(" + scene + ", " + scene + ")", x.moveScene(scene, scene), Check.NONE);
        }
        Check.due("the states", x.count(11), 2);
        x.moveScene(3, 1);
        Check.due("moveScene(3, 1) again", x.moveScene(3, 1), Check.NONE);
        Check.due("moveScene(1, 2), where it stands now", x.moveScene(1, 2), Check.NONE);
        Check.due("moveScene(1, 1), where it stood at first", x.moveScene(1, 1), 0);
    }

    private static void promise6Refused() {
        Check.sentence("Promise 6", "UNKNOWN; BAD_VALUE");
        Counted x = Check.board("0/1", "1/1");
        for (int scene : Check.wrong(-1, 5)) {
            Check.due("moveScene(" + scene + ", 0)", x.moveScene(scene, 0), Check.UNKNOWN);
            Check.due("moveScene(" + scene + ", 5), UNKNOWN comes first", x.moveScene(scene, 5), Check.UNKNOWN);
            Check.due("moveScene(" + scene + ", -1), UNKNOWN comes first", x.moveScene(scene, -1), Check.UNKNOWN);
        }
        Check.sentence("Promise 6", "place: 0 to 4");
        for (int place : Check.wrong(-1, 5)) {
            Check.due("moveScene(0, " + place + ")", x.moveScene(0, place), Check.BAD_VALUE);
            Check.due("moveScene(4, " + place + ")", x.moveScene(4, place), Check.BAD_VALUE);
        }
        dueScenes(x, 0, 1, 2, 3, 4);
        Check.due("the states", x.count(11), 2);
    }

    private static void dueMended(String what, Counted x, int scene, int moves, String line) {
        Check.due(what + ": mend(" + scene + ")", x.mend(scene), moves);
        Check.dueText(what + ": the order", Check.line(x), line);
    }

    private static void promise8FewerBreaks() {
        Check.sentence("Promise 8", "as long as there is a panel of the scene and a place of it in this scene with which"
                + " the board has fewer breaks");
        Counted x = Check.board("1/1,A=0", "1/2,A+0", "0/3", "1/4,A-0");
        Check.due("the breaks at first", x.count(3), 2);
        dueMended("the drawn one behind the picked up one", x, 1, 1, "2 1 0 3");
        Check.due("the breaks then", x.count(3), 0);
        Check.sentence("Promise 8", "NONE if there is none.");
        dueMended("no break is left", x, 1, Check.NONE, "2 1 0 3");
        Check.due("the states", x.count(11), 4);
        Counted y = Check.board("2/1,A-0", "2/1,A-0", "2/1,A-0");
        dueMended("every place has as many breaks", y, 2, Check.NONE, "0 1 2");
        Check.due("its breaks", y.count(3), 3);
        Counted z = Check.board("0/1,A=0", "0/1,B=0", "2/1,A=0");
        dueMended("the break that is saved is in another scene", z, 0, 1, "1 0 2");
        Counted w = Check.board("0/1,A-0", "0/1,A+0", "2/1,A=0");
        dueMended("a break is saved, and comes in another scene", w, 0, Check.NONE, "0 1 2");
    }

    private static void promise8TheLowestPanel() {
        Check.sentence("Promise 8", "the lowest such panel is moved");
        // Any of the three could move and save the turn of A; the lowest one does, from the last place.
        Counted x = Check.board("2/1,A.", "2/2,A>", "2/3,A<");
        x.move(0, 2, 2);
        Check.due("the breaks at first", x.count(3), 1);
        dueMended("the lowest one stands last", x, 2, 1, "1 0 2");
        // Panel 0 can't save any break. Panel 1 saves one at the places 2 and 3 and goes to 2:
        // 0 2 1 3 4. Now 1 can't save any more, but 2 can, at the places 3 and 4, and goes to 3.
        Counted y = Check.board("2/1,B.", "2/2,A>", "2/3,A<", "2/4,A>", "2/5,A<");
        Check.due("the breaks at first", y.count(3), 3);
        dueMended("the lowest one can't save any", y, 2, 2, "0 1 3 2 4");
        Check.due("the breaks then", y.count(3), 1);
        Check.sentence("Promise 8", "there is a panel of the scene");
        Counted z = Check.board("0/1,A-0", "2/1,B.", "0/1,A+0");
        dueMended("one of another scene would save a break", z, 2, Check.NONE, "0 2 1");
        dueMended("that scene", z, 0, 1, "2 0 1");
    }

    private static void promise8ItsBestPlace() {
        Check.sentence("Promise 8", "moved to its best place in this scene (see bestPlace())");
        // Nothing but the first place, and no other panel, helps.
        Counted x = Check.board("2/1,A+0", "2/1,A=0", "2/1,A=0");
        Check.due("the picking up at last", x.move(0, 2, 2), 2);
        dueMended("to the first place", x, 2, 1, "0 1 2");
        // Of four breaks panel 0 saves two at place 1, and all at the places 2 and 3.
        Counted y = Check.board("3/1,A=0,B=1", "3/1,A+0,A.", "3/1,B+1,A=0", "3/1,A=0,B=1");
        Check.due("at place 1", y.ifMoved(0, 3, 1), 2);
        Check.due("at place 2", y.ifMoved(0, 3, 2), 0);
        Check.due("at place 3", y.ifMoved(0, 3, 3), 0);
        dueMended("not the first place that saves one", y, 3, 1, "1 2 0 3");
        // Panel 0 saves a break nowhere but at the last place.
        Counted z = Check.board("3/1,A-0", "3/1,B.", "3/1,A+0");
        dueMended("to the last place", z, 3, 1, "1 2 0");
    }

    private static void promise8TwoMoves() {
        Check.sentence("Promise 8", "at most two moves in all");
        Counted x = Check.board("3/1,A-0", "3/1,A+0", "3/1,B-1", "3/1,B+1", "3/1,C-2", "3/1,C+2");
        Check.due("the breaks of three pairs", x.count(3), 3);
        dueMended("two of three", x, 3, 2, "1 0 3 2 4 5");
        Check.due("the breaks then", x.count(3), 1);
        dueMended("the third one", x, 3, 1, "1 0 3 2 5 4");
        Check.due("the breaks at last", x.count(3), 0);
        dueMended("none is left", x, 3, Check.NONE, "1 0 3 2 5 4");
        Counted y = Check.board("3/1,A-0", "3/1,A+0", "3/1,B-1", "3/1,B+1");
        dueMended("two of two", y, 3, 2, "1 0 3 2");
        dueMended("none is left of two", y, 3, Check.NONE, "1 0 3 2");
    }

    private static void promise8Scenes() {
        Check.sentence("Promise 8", "scene: 0 to 4");
        for (int scene = 0; scene < 5; scene++) {
            Counted x = Check.board(scene + "/1,A-0", scene + "/1,A+0");
            for (int other = 0; other < 5; other++) {
                if (other != scene) {
                    dueMended("an empty scene", x, other, Check.NONE, "0 1");
                }
            }
            Check.due("the states", x.count(11), 2);
            dueMended("the only scene", x, scene, 1, "1 0");
        }
        Counted y = Check.board("2/1,A=0");
        dueMended("a scene of one panel", y, 2, Check.NONE, "0");
        dueMended("a scene of an empty board", new Counted(), 0, Check.NONE, "");
        Check.sentence("Promise 8", "UNKNOWN");
        for (int scene : Check.wrong(-1, 5)) {
            Check.due("mend(" + scene + ")", y.mend(scene), Check.UNKNOWN);
        }
        Counted z = Check.boardOf(9, "4/1,A=0,A-0");
        Check.put(z, "4/1,A+0");
        Check.due("the breaks of ten panels", z.count(3), 9);
        dueMended("ten panels", z, 4, 1, "1 2 3 4 5 6 7 8 9 0");
    }

    private static void promise8IsAnAct() {
        Check.sentence("Promise 8", "This is an act.");
        Counted x = Check.board("3/1,A-0", "3/1,A+0");
        Check.due("mend(3) of one move", x.mend(3), 1);
        Check.due("the states", x.count(11), 3);
        Check.due("undo()", x.undo(), 2);
        Check.dueText("the order then", Check.line(x), "0 1");
        Counted y = Check.board("3/1,A-0", "3/1,A=0", "3/1,A+0");
        String told = Check.told(y);
        dueMended("of two moves", y, 3, 2, "2 1 0");
        Check.due("the states", y.count(11), 4);
        Check.due("undo() of both moves", y.undo(), 3);
        Check.dueText("the state then", Check.told(y), told);
        Check.due("undo() of what was before", y.undo(), 2);
        Check.dueText("the order then", Check.line(y), "0 1");
    }
}

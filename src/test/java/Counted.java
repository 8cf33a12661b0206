/** A StoryPanels that counts its calls: the document promises nothing behind the 512th. */
final class Counted {
    private static final int CALLS = 512;

    private final StoryPanels panels = new StoryPanels();
    private int calls = 0;

    private StoryPanels next() {
        calls++;
        // It also ends a test's loop over answers that never end.
        if (calls > CALLS) {
            throw new IllegalStateException("a test makes more than " + CALLS + " calls of one object");
        }
        return panels;
    }

    int putPanel() {
        return next().putPanel();
    }

    int redraw(int panel) {
        return next().redraw(panel);
    }

    int takeAway(int panel) {
        return next().takeAway(panel);
    }

    int move(int panel, int scene, int place) {
        return next().move(panel, scene, place);
    }

    int moveScene(int scene, int place) {
        return next().moveScene(scene, place);
    }

    int time(int panel, int duration) {
        return next().time(panel, duration);
    }

    int mend(int scene) {
        return next().mend(scene);
    }

    int type(char character) {
        return next().type(character);
    }

    int clearText() {
        return next().clearText();
    }

    int undo() {
        return next().undo();
    }

    int keep() {
        return next().keep();
    }

    int restore() {
        return next().restore();
    }

    int panel(int panel, int what) {
        return next().panel(panel, what);
    }

    int event(int panel, int event, int what) {
        return next().event(panel, event, what);
    }

    int at(int rank) {
        return next().at(rank);
    }

    int scene(int scene, int what) {
        return next().scene(scene, what);
    }

    int holder(int prop, int panel) {
        return next().holder(prop, panel);
    }

    int breakOf(int rank, int what) {
        return next().breakOf(rank, what);
    }

    int firstBreak(int scene, int what) {
        return next().firstBreak(scene, what);
    }

    int ifMoved(int panel, int scene, int place) {
        return next().ifMoved(panel, scene, place);
    }

    int bestPlace(int panel, int scene) {
        return next().bestPlace(panel, scene);
    }

    int count(int what) {
        return next().count(what);
    }
}

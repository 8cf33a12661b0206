/** EVENTS and CONTINUITY: each kind of event and of break by itself, in the order in which breaks come. */
public final class ContinuityTest {
    public static void main(String[] args) {
        atFirst();
        picksUpAHeldProp();
        putsDownAPropThatItDoesNotHold();
        isDrawnWithAPropThatItDoesNotHold();
        holdsAPropUndrawn();
        holdsPropsUndrawnInOrder();
        turnsWithoutHavingStood();
        whatIsForgotten();
        everyCharacterAndProp();
        theKindsOfEvents();
        Check.end("ContinuityTest");
    }

    /** Each break as "panel:kind:character:prop:event", with "_" for NONE. */
    private static void dueBreaks(String breaks, String... texts) {
        Check.dueText("the breaks of " + String.join(" ", texts), Check.breaks(Check.board(texts)), breaks);
    }

    private static void atFirst() {
        Check.sentence("CONTINUITY", "At first nobody holds anything, and nobody moved.");
        dueBreaks("", "0/1,A+0,B+1,C+8,D+9");
        dueBreaks("0:2:0:0:0 0:2:3:9:1", "0/1,A-0,D-9");
        dueBreaks("0:3:0:0:0 0:3:3:9:1", "0/1,A=0,D=9");
        dueBreaks("", "0/1,A>,B<,C>,D<");
        dueBreaks("", "0/1,A<,B>,C<,D>");
        dueBreaks("", "0/1,A.");
        dueBreaks("", "0/1");
        dueBreaks("");
        Check.sentence("CONTINUITY", "The board is gone through in its order, each panel's events in theirs.");
        dueBreaks("1:3:0:0:0 0:1:0:0:0", "4/1,A+0", "2/1,A=0");
        dueBreaks("0:1:1:0:1 1:1:0:0:0", "0/1,A+0,B+0", "0/1,A+0");
        Counted x = Check.board("0/1,A+0", "1/1,A=0", "2/1,A-0");
        x.moveScene(2, 0);
        x.moveScene(1, 0);
        // Scene 1, then 2, then 0: drawn, put down, picked up.
        Check.dueText("the breaks in another order of scenes", Check.breaks(x), "1:3:0:0:0");
    }

    private static void picksUpAHeldProp() {
        Check.sentence("CONTINUITY", "1 a character picks up a prop that is held (by anybody)");
        dueBreaks("0:1:1:0:1", "0/1,A+0,B+0");
        dueBreaks("0:1:0:0:1", "0/1,A+0,A+0");
        dueBreaks("1:1:3:9:0", "0/1,C+9", "1/1,D+9");
        dueBreaks("", "0/1,A+0,A+1,A=0");
        dueBreaks("", "0/1,A+0,A-0,B+0");
        dueBreaks("0:2:1:0:1", "0/1,A+0,B-0,C+0");
        dueBreaks("0:3:0:0:0 0:1:1:0:1", "0/1,A=0,B+0");
        Check.sentence("CONTINUITY", "in any case it holds the prop then");
        dueBreaks("", "0/1,A+0,A-0");
        dueBreaks("0:1:1:0:1", "0/1,A+0,B+0,B-0");
        dueBreaks("0:1:1:0:1 0:2:0:0:2", "0/1,A+0,B+0,A-0");
        dueBreaks("0:1:1:0:1 1:3:0:0:0", "0/1,A+0,B+0", "0/1,A=0");
        dueBreaks("0:1:0:0:1", "0/1,A+0,A+0,A-0");
    }

    private static void putsDownAPropThatItDoesNotHold() {
        Check.sentence("CONTINUITY", "2 a character puts down a prop that it does not hold");
        dueBreaks("", "0/1,A+0", "0/1,A-0");
        dueBreaks("0:2:0:0:0", "0/1,A-0");
        dueBreaks("0:2:1:0:1", "0/1,A+0,B-0");
        dueBreaks("0:2:0:1:1", "0/1,A+0,A-1,A=0");
        dueBreaks("1:2:2:5:1", "4/1,C+5", "4/1,C-5,C-5");
        Check.sentence("CONTINUITY", "in any case nobody holds the prop then");
        dueBreaks("0:2:1:0:1 0:2:0:0:2", "0/1,A+0,B-0,A-0");
        dueBreaks("0:2:1:0:1 0:3:0:0:2", "0/1,A+0,B-0,A=0");
        dueBreaks("0:3:0:0:2", "0/1,A+0,A-0,A=0");
        dueBreaks("0:2:1:0:1", "0/1,A+0,B-0", "0/1,A.");
    }

    private static void isDrawnWithAPropThatItDoesNotHold() {
        Check.sentence("CONTINUITY", "3 a character is drawn with a prop that it does not hold");
        dueBreaks("", "0/1,A+0,A=0,A=0");
        dueBreaks("0:3:0:0:0", "0/1,A=0");
        dueBreaks("0:3:1:0:1", "0/1,A+0,B=0");
        dueBreaks("0:3:0:1:1", "0/1,A+0,A=1");
        Check.sentence("CONTINUITY", "in any case it holds the prop then");
        dueBreaks("0:3:0:0:0", "0/1,A=0,A=0");
        dueBreaks("0:3:0:0:0", "0/1,A=0,A-0");
        dueBreaks("0:3:1:0:1 0:3:0:0:2", "0/1,A+0,B=0,A=0");
        dueBreaks("0:3:1:0:1", "0/1,A+0,B=0,B-0");
    }

    private static void holdsAPropUndrawn() {
        Check.sentence("CONTINUITY", "a character that has any event in it");
        for (String event : new String[] {"A.", "A>", "A<", "A+1", "A+1,A-1"}) {
            dueBreaks("1:4:0:3:_", "0/1,A+3", "0/1," + event);
        }
        dueBreaks("1:2:0:1:0 1:4:0:3:_", "0/1,A+3", "0/1,A-1");
        dueBreaks("1:3:0:1:0 1:4:0:3:_", "0/1,A+3", "0/1,A=1");
        dueBreaks("", "0/1,A+3", "0/1");
        dueBreaks("", "0/1,A+3", "0/1,B.,C>,D<");
        Check.sentence("CONTINUITY", "with which it has no event of the kinds 0 to 2 in this panel");
        dueBreaks("", "0/1,A+3", "0/1,A.,A=3");
        dueBreaks("", "0/1,A+3", "0/1,A=3,A.");
        dueBreaks("1:1:0:3:1", "0/1,A+3", "0/1,A.,A+3");
        dueBreaks("", "0/1,A+3", "0/1,A>,A-3");
        dueBreaks("", "0/1,A+3", "0/1,A-3,A+3,A.");
        dueBreaks("", "0/1,A+3,A>,A.");
        dueBreaks("1:4:0:3:_ 2:4:0:3:_", "0/1,A+3", "0/1,A.", "3/1,A.");
        // An event of the panel before isn't in this one, and one of another character isn't its own.
        dueBreaks("2:4:0:3:_", "0/1,A+3", "0/1,A=3", "0/1,A.");
        dueBreaks("1:4:0:3:_ 1:4:1:2:_", "0/1,A+3,B+2", "0/1,A.,B.");
        Check.sentence("CONTINUITY", "holds a prop now");
        dueBreaks("1:3:1:3:1", "0/1,A+3", "0/1,A.,B=3");
        dueBreaks("1:2:1:3:1", "0/1,A+3", "0/1,A.,B-3");
        dueBreaks("1:1:1:4:1", "0/1,A+3,A+4", "0/1,A=3,B+4");
        dueBreaks("1:3:1:3:0 1:3:0:3:1", "0/1,A+3", "0/1,B=3,A=3");
    }

    private static void holdsPropsUndrawnInOrder() {
        Check.sentence("CONTINUITY", "one break for each such character and prop, by characters, then by props");
        dueBreaks("2:4:0:0:_ 2:4:0:9:_ 2:4:1:1:_ 2:4:1:8:_ 2:4:2:2:_ 2:4:3:7:_",
                "0/1,D+7,C+2,B+8", "0/1,B+1,B=8,A+9,A+0", "0/1,D.,C.,B.,A.");
        Check.sentence("CONTINUITY", "4 behind the events of a panel");
        dueBreaks("3:5:1:_:2 3:4:0:2:_ 3:4:0:7:_ 3:4:1:0:_ 3:4:1:9:_",
                "0/1,B+9,A+7", "1/1,B+0,B=9,A+2,A=7", "1/1,C+5", "2/1,A.,B>,B<");
        String lower = "2:4:0:0:_ 2:4:0:1:_ 2:4:0:2:_ 2:4:0:3:_ 2:4:0:4:_";
        String upper = " 2:4:0:5:_ 2:4:0:6:_ 2:4:0:7:_ 2:4:0:8:_ 2:4:0:9:_";
        dueBreaks(lower.replace("2:4", "1:4") + " " + lower + upper,
                "0/1,A+0,A+1,A+2,A+3,A+4", "0/1,A+5,A+6,A+7,A+8,A+9", "0/1,A.");
    }

    private static void turnsWithoutHavingStood() {
        Check.sentence("CONTINUITY", "5 a character moves the other way than it moved the latest in this scene");
        dueBreaks("", "0/1,A>,A>", "0/1,A>");
        dueBreaks("", "0/1,A<,A<", "0/1,A<");
        dueBreaks("0:5:0:_:1", "0/1,A>,A<");
        dueBreaks("0:5:0:_:1", "0/1,A<,A>");
        dueBreaks("", "0/1,A>,B<");
        dueBreaks("1:5:0:_:0", "0/1,A>", "0/2,A<");
        dueBreaks("2:5:0:_:0", "0/1,A>", "0/2", "0/2,A<");
        dueBreaks("1:5:3:_:1", "0/1,D<", "0/2,C>,D>");
        Check.sentence("CONTINUITY", "and has not stood since (in this scene)");
        dueBreaks("", "0/1,A>,A.,A<");
        dueBreaks("", "0/1,A<,A.,A>");
        dueBreaks("", "0/1,A>", "0/2,A.", "0/2,A<");
        dueBreaks("0:5:0:_:2", "0/1,A>,B.,A<");
        dueBreaks("0:5:0:_:2", "0/1,A.,A>,A<");
        dueBreaks("0:5:0:_:3", "0/1,A>,A.,A<,A>");
        dueBreaks("0:5:0:_:3", "0/1,A>,A+1,A=1,A<,A-1");
        Check.sentence("CONTINUITY", "in any case it moved this way then");
        dueBreaks("0:5:0:_:1", "0/1,A>,A<,A<");
        dueBreaks("0:5:0:_:1 0:5:0:_:2 0:5:0:_:3", "0/1,A<,A>,A<,A>");
        dueBreaks("0:5:0:_:1 1:5:0:_:2", "0/1,A>,A<", "0/1,A<,A+1,A>,A=1");
    }

    private static void whatIsForgotten() {
        Check.sentence("CONTINUITY", "What was moved in a scene is forgotten as the next scene begins; what is held is"
                + " not.");
        dueBreaks("", "0/1,A>", "1/2,A<");
        dueBreaks("", "0/1,A>", "4/2,A<");
        dueBreaks("2:5:0:_:0", "0/1,A>", "1/2,A<", "1/2,A>");
        dueBreaks("", "0/1,A>,B<", "1/2", "2/2,A<,B>");
        dueBreaks("", "0/1,A+0", "1/2,A=0", "4/2,A-0");
        dueBreaks("1:1:1:0:0", "0/1,A+0", "4/2,B+0");
        dueBreaks("1:4:0:0:_", "0/1,A+0", "4/2,A>");
        Counted x = Check.board("0/1,A>", "0/2,A<", "0/3,A>");
        Check.due("move of the middle one to the next scene", x.move(1, 1, 0), 0);
        Check.due("and back behind the others", x.move(1, 0, 2), 1);
    }

    private static void dueKind(String event, int kind, int prop, int holder, String breaks) {
        Counted x = Check.board("0/1,B+4,C>", "0/2," + event);
        Check.due("event(1, 0, 1) of " + event, x.event(1, 0, 1), kind);
        Check.due("event(1, 0, 2) of " + event, x.event(1, 0, 2), prop);
        Check.due("holder(4, 1) behind " + event, x.holder(4, 1), holder);
        Check.dueText("the breaks of " + event, Check.breaks(x), breaks);
    }

    private static void theKindsOfEvents() {
        Check.sentence("EVENTS", "An event is of a character, and of a kind: 0 picks a prop up, 1 puts a prop down, 2 is"
                + " drawn with a prop, 3 moves to the right, 4 moves to the left, 5 stands.");
        dueKind("C+4", 0, 4, 2, "1:1:2:4:0");
        dueKind("B+4", 0, 4, 1, "1:1:1:4:0");
        dueKind("C+5", 0, 5, 1, "");
        dueKind("B-4", 1, 4, Check.NONE, "");
        dueKind("C-4", 1, 4, Check.NONE, "1:2:2:4:0");
        dueKind("B=4", 2, 4, 1, "");
        dueKind("C=4", 2, 4, 2, "1:3:2:4:0");
        dueKind("C>", 3, Check.NONE, 1, "");
        dueKind("C<", 4, Check.NONE, 1, "1:5:2:_:0");
        dueKind("C.", 5, Check.NONE, 1, "");
        dueKind("B.", 5, Check.NONE, 1, "1:4:1:4:_");
    }

    /** Every character and prop breaks, and is told, like the others. */
    private static void everyCharacterAndProp() {
        Check.sentence("EVENTS", "There are 4 characters, A to D, numbered from 0, and 10 props, numbered from 0.");
        for (int character = 0; character < 4; character++) {
            char name = (char) ('A' + character);
            dueBreaks("0:5:" + character + ":_:1", "0/1," + name + ">," + name + "<");
            for (int prop = 0; prop < 10; prop++) {
                String pair = ":" + character + ":" + prop + ":";
                String with = name + "+" + prop;
                dueBreaks("0:1" + pair + "1 1:4" + pair + "_", "0/1," + with + "," + with, "0/1," + name + ".");
                dueBreaks("0:2" + pair + "0", "0/1," + name + "-" + prop);
                dueBreaks("0:3" + pair + "0", "0/1," + name + "=" + prop);
                for (int other = 0; other < 4; other++) {
                    if (other != character) {
                        char taker = (char) ('A' + other);
                        String taken = ":" + other + ":" + prop + ":";
                        dueBreaks("0:3" + taken + "1", "0/1," + with + "," + taker + "=" + prop);
                        dueBreaks("0:1" + taken + "1", "0/1," + with + "," + taker + "+" + prop);
                        dueBreaks("0:2" + taken + "1", "0/1," + with + "," + taker + "-" + prop);
                    }
                }
            }
        }
    }
}

/** Promises 1, 9 and 10, and the faults of texts, which promises 2 and 3 answer. */
public final class TextsTest {
    public static void main(String[] args) {
        promise1ANewObject();
        promise9Type();
        promise10ClearText();
        textsWithoutFault();
        faultsOfTexts();
        everySignAtEveryPlace();
        Check.end("TextsTest");
    }

    private static void promise1ANewObject() {
        StoryPanels x = new StoryPanels();
        for (int what = 0; what <= 12; what++) {
            Check.due("1: count(" + what + ") of a new object", x.count(what), 0);
        }
        for (int scene = 0; scene < 5; scene++) {
            Check.due("1: scene(" + scene + ", 0)", x.scene(scene, 0), scene);
            for (int what = 1; what <= 4; what++) {
                Check.due("1: scene(" + scene + ", " + what + ")", x.scene(scene, what), 0);
            }
            for (int what = 0; what <= 2; what++) {
                Check.due("1: firstBreak(" + scene + ", " + what + ")", x.firstBreak(scene, what), Check.NONE);
            }
            Check.due("1: mend(" + scene + ")", x.mend(scene), Check.NONE);
        }
        Check.due("1: at(0)", x.at(0), Check.NONE);
        Check.due("1: panel(0, 0)", x.panel(0, 0), Check.UNKNOWN);
        Check.due("1: panel(-1, 0), the number of no panel", x.panel(-1, 0), Check.UNKNOWN);
        Check.due("1: breakOf(0, 0)", x.breakOf(0, 0), Check.NONE);
        Check.due("1: undo()", x.undo(), Check.NONE);
        Check.due("1: restore()", x.restore(), Check.NONE);
        Check.due("1: clearText()", x.clearText(), 0);
        Check.due("the constant UNKNOWN", StoryPanels.UNKNOWN, -1);
        Check.due("the constant BAD_VALUE", StoryPanels.BAD_VALUE, -2);
        Check.due("the constant FULL", StoryPanels.FULL, -3);
        Check.due("the constant NOT_POSSIBLE", StoryPanels.NOT_POSSIBLE, -4);
        Check.due("the constant NONE", StoryPanels.NONE, -5);
    }

    private static void promise9Type() {
        StoryPanels x = new StoryPanels();
        for (int length = 1; length <= 60; length++) {
            char sign = (char) (length * 1097);
            Check.due("9: type of sign " + length, x.type(sign), length);
        }
        Check.due("9: type of sign 61", x.type('0'), Check.FULL);
        Check.due("9: type of a sign of 0, 61st", x.type((char) 0), Check.FULL);
        Check.due("9: count(12) of a full text", x.count(12), 60);
        Check.due("9: count(11), for type is no act", x.count(11), 0);
        x.clearText();
        Check.due("9: type of the highest character", x.type((char) 65535), 1);
        Check.due("9: it is a fault", x.putPanel(), -100);
    }

    private static void promise10ClearText() {
        StoryPanels x = new StoryPanels();
        Check.due("10: clearText() of the empty text", x.clearText(), 0);
        Check.write(x, "3/12");
        Check.due("10: clearText()", x.clearText(), 4);
        Check.due("10: count(12) then", x.count(12), 0);
        Check.due("10: putPanel() of the emptied text", x.putPanel(), -100);
        x.type('3');
        Check.due("10: an old text does not shine through", x.putPanel(), -101);
        Check.due("10: clearText() is no act", x.count(11), 0);
    }

    private static void textsWithoutFault() {
        dueFault("0/1", -1);
        dueFault("4/99", -1);
        dueFault("2/10", -1);
        dueFault("0/1,A.", -1);
        dueFault("0/10,D=9", -1);
        dueFault("0/1,A+0,B-1,C=2,D>,A<,B.", -1);
        dueFault("0/12,A+0,B-1,C=2,D+3,A-4,B=9", -1);
        StoryPanels x = Check.board("3/45,A+0,B-1,C=2,D>,A<,B.");
        int[][] due = {{0, 0, 0}, {1, 1, 1}, {2, 2, 2}, {3, 3, -5}, {0, 4, -5}, {1, 5, -5}};
        for (int event = 0; event < 6; event++) {
            for (int what = 0; what < 3; what++) {
                Check.due("what a text tells: event(0, " + event + ", " + what + ")",
                        x.event(0, event, what), due[event][what]);
            }
        }
        Check.due("what a text tells: the scene", x.panel(0, 0), 3);
        Check.due("what a text tells: the duration", x.panel(0, 1), 45);
    }

    private static void faultsOfTexts() {
        dueFault("", 0);
        dueFault("5/1", 0);
        dueFault("/1", 0);
        dueFault("A", 0);
        dueFault("0", 1);
        dueFault("01", 1);
        dueFault("0,1", 1);
        dueFault("0/", 2);
        dueFault("0/0", 2);
        dueFault("0/01", 2);
        dueFault("0/,A.", 2);
        dueFault("0/1A", 3);
        dueFault("0/1/", 3);
        dueFault("0/123", 4);
        dueFault("0/100", 4);
        dueFault("0/12A", 4);
        dueFault("0/1,", 4);
        dueFault("0/12,", 5);
        dueFault("0/1,E.", 4);
        dueFault("0/1,a.", 4);
        dueFault("0/1,,", 4);
        dueFault("0/1,A", 5);
        dueFault("0/1,AB", 5);
        dueFault("0/1,A,", 5);
        dueFault("0/1,A+", 6);
        dueFault("0/1,A-", 6);
        dueFault("0/1,A=", 6);
        dueFault("0/1,A+,", 6);
        dueFault("0/1,A+A", 6);
        dueFault("0/1,A>1", 6);
        dueFault("0/1,A+12", 7);
        dueFault("0/1,A.,", 7);
        dueFault("0/1,A. ", 6);
        dueFault(" 0/1", 0);
        dueFault("0/1,A.,A.,A.,A.,A.,A.,", 21);
        dueFault("0/1,A.,A.,A.,A.,A.,A.,A.", 21);
        dueFault("0/12,A+0,A+0,A+0,A+0,A+0,A+0,A+0", 28);
        dueFault("0/12,A+0,A+0,A+0,A+0,A+0,A+", 27);
        dueFault("0/12,A+0,A+0,A+0,A+0,A+0,A+0.", 28);
    }

    /** Puts every sign of 0 to 300 at each place of a text; those that are allowed are named. */
    private static void everySignAtEveryPlace() {
        String text = "0/1,A+0,B.";
        String[] allowed = {"01234", "/", "123456789", ",0123456789", "ABCD", "+-=", "0123456789", ",", "ABCD", "><."};
        for (int place = 0; place < text.length(); place++) {
            for (int sign = 0; sign <= 300; sign++) {
                boolean fine = allowed[place].indexOf(sign) >= 0;
                // A second digit of the duration lets the rest begin too early; a kind without
                // a prop, too: these are looked at by dueFault above.
                if (place == 3 && sign != ',' && fine || place == 9 && fine) {
                    continue;
                }
                String changed = text.substring(0, place) + (char) sign + text.substring(place + 1);
                int due = fine ? -1 : place;
                if (place == 9 && (sign == '+' || sign == '-' || sign == '=')) {
                    due = 10;
                }
                if (place == 5 && (sign == '>' || sign == '<' || sign == '.')) {
                    due = 6;
                }
                dueFault(changed, due);
            }
        }
    }

    /** -1 for no fault; both acts that read the text are asked. */
    private static void dueFault(String text, int fault) {
        StoryPanels x = Check.board("0/7,C>");
        Check.write(x, text);
        String told = "the text \"" + text + "\"";
        int redrawn = x.redraw(0);
        if (fault == -1) {
            int events = text.length() < 3 ? 0 : text.split(",").length - 1;
            Check.due("3: redraw of " + told, redrawn, events);
            Check.due("2: putPanel of " + told, x.putPanel(), 1);
        } else {
            Check.due("3: redraw of " + told, redrawn, -100 - fault);
            Check.due("2: putPanel of " + told, x.putPanel(), -100 - fault);
            Check.due("2, 3: the history behind faults", x.count(11), 1);
            Check.due("2, 3: the duration behind faults", x.panel(0, 1), 7);
            Check.due("2, 3: the panels behind faults", x.count(1), 1);
        }
        Check.due("2, 3: the text stays", x.clearText(), text.length());
    }
}

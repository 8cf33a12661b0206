/** Promises 9 and 10, and the texts of panels with the places of their faults. */
public final class TextsTest {
    private static final String LONGEST = "0/12,A+0,B-1,C=2,D+3,A-4,B=9";
    private static final String KINDS = "+-=><.";
    private static final int FINE = -1;

    public static void main(String[] args) {
        promise9AnyCharacter();
        promise9Full();
        promise10ClearText();
        promise10WhatFollows();
        aSceneAndADuration();
        wrongScenesAndDurations();
        everyEvent();
        wrongEvents();
        sixEventsAtMost();
        textsThatEndTooEarly();
        everySignAtEveryPlace();
        Check.end("TextsTest");
    }

    private static void promise9AnyCharacter() {
        Check.sentence("Promise 9", "character: any character");
        for (int sign : new int[] {0, 1, 10, 32, 127, 128, 255, 256, 304, 55296, 57343, 65534, 65535}) {
            Counted x = Check.board("0/1");
            Check.due("type of the sign " + sign, x.type((char) sign), 4);
            Check.due("it is a fault at the end of a text", x.putPanel(), -103);
            x.clearText();
            Check.due("type of the sign " + sign + " as the first one", x.type((char) sign), 1);
            Check.due("it is a fault at the beginning", x.putPanel(), -100);
        }
        Check.sentence("Promise 9", "Types a character behind the text.");
        Counted y = new Counted();
        y.type('3');
        y.type('/');
        y.type('2');
        y.type('1');
        Check.due("putPanel() of four characters", y.putPanel(), 0);
        Check.due("the first one is the scene", y.panel(0, 0), 3);
        Check.due("the last ones are the duration", y.panel(0, 1), 21);
    }

    private static void promise9Full() {
        Check.sentence("Promise 9", "Returns the length of the text then; FULL if it has 60 characters.");
        Counted x = new Counted();
        for (int length = 1; length <= 60; length++) {
            Check.due("type of the " + length + "th character", x.type((char) (length * 1097)), length);
        }
        for (int sign : new int[] {'0', 0, 65535}) {
            Check.due("type of a 61st character, " + sign, x.type((char) sign), Check.FULL);
        }
        Check.due("the length of the text", x.count(12), 60);
        Check.due("no call was an act", x.count(11), 0);
        Check.sentence("TEXTS", "There is a text of at most 60 characters, empty at first.");
        Check.due("clearText() of a full text", x.clearText(), 60);
        Check.due("type behind it", x.type('0'), 1);
        Check.due("clearText() of a new object", new Counted().clearText(), 0);
    }

    private static void promise10ClearText() {
        Check.sentence("Promise 10", "Returns the length that it had.");
        Counted x = new Counted();
        Check.due("clearText() of the empty text", x.clearText(), 0);
        Check.due("clearText() again", x.clearText(), 0);
        for (int length = 1; length <= 20; length++) {
            for (int sign = 0; sign < length; sign++) {
                x.type('0');
            }
            Check.due("clearText() of " + length + " characters", x.clearText(), length);
        }
        Check.due("no call was an act", x.count(11), 0);
    }

    private static void promise10WhatFollows() {
        Check.sentence("Promise 10", "Empties the text.");
        Counted x = Check.board("3/12,A.");
        x.clearText();
        Check.due("count(12)", x.count(12), 0);
        Check.due("putPanel() of the emptied text", x.putPanel(), -100);
        x.type('3');
        Check.due("the old text does not shine through behind one character", x.putPanel(), -101);
        x.type('/');
        x.type('4');
        Check.due("nor behind three", x.putPanel(), 1);
        Check.due("the duration then", x.panel(1, 1), 4);
        Check.due("the events then", x.panel(1, 2), 0);
    }

    /** FINE for no fault; both acts that read the text are asked. */
    private static void dueFault(String text, int fault) {
        Counted x = Check.board("0/7,C>");
        Check.write(x, text);
        String told = "the text \"" + text + "\"";
        if (fault == FINE) {
            Check.due("redraw by " + told, x.redraw(0), text.split(",").length - 1);
            Check.due("putPanel of " + told, x.putPanel(), 1);
        } else {
            Check.due("redraw by " + told, x.redraw(0), -100 - fault);
            Check.due("putPanel of " + told, x.putPanel(), -100 - fault);
            Check.due("the states behind " + told, x.count(11), 1);
            Check.due("the duration behind " + told, x.panel(0, 1), 7);
            Check.due("the panels behind " + told, x.count(1), 1);
        }
        Check.due("it stays: " + told, x.clearText(), text.length());
    }

    private static void aSceneAndADuration() {
        Check.sentence("TEXTS", "A text of a panel is a scene (0 to 4), \"/\", a duration (1 to 99");
        for (int scene = 0; scene <= 4; scene++) {
            for (int duration = 1; duration <= 99; duration++) {
                String text = scene + "/" + duration;
                Counted x = new Counted();
                Check.write(x, text);
                Check.due("putPanel() of " + text, x.putPanel(), 0);
                Check.due("the scene of " + text, x.panel(0, 0), scene);
                Check.due("the duration of " + text, x.panel(0, 1), duration);
                Check.due("the events of " + text, x.panel(0, 2), 0);
            }
        }
    }

    private static void wrongScenesAndDurations() {
        Check.sentence("TEXTS", "a scene (0 to 4)");
        for (String text : new String[] {"5/1", "9/1", "-1/1", "/1", ",", "A", " 0/1", "+0/1"}) {
            dueFault(text, 0);
        }
        dueFault("01/1", 1);
        Check.sentence("TEXTS", "\"/\"");
        for (String text : new String[] {"0,1", "0 /1", "0\\1", "01", "0:1"}) {
            dueFault(text, 1);
        }
        dueFault("0//1", 2);
        Check.sentence("TEXTS", "a duration (1 to 99, without a zero in front)");
        for (String text : new String[] {"0/0", "0/01", "0/00", "0/-1", "0/,A.", "0/A.", "0/ 1", "0/+1"}) {
            dueFault(text, 2);
        }
        for (String text : new String[] {"0/100", "0/999", "0/990", "0/12A", "0/12 ", "0/12/"}) {
            dueFault(text, 4);
        }
        for (String text : new String[] {"0/1A", "0/1/", "0/1 ", "0/1.", "0/1A."}) {
            dueFault(text, 3);
        }
    }

    private static void everyEvent() {
        Check.sentence("TEXTS", "a character (A to D), and \"+\" and a prop (0 to 9), \"-\" and a prop, \"=\" and a prop,"
                + " \">\", \"<\" or \".\" (the kinds 0 to 5)");
        for (int character = 0; character < 4; character++) {
            for (int kind = 0; kind < 6; kind++) {
                for (int prop = 0; prop < 10; prop++) {
                    dueEvent(character, kind, prop);
                }
            }
        }
    }

    private static void dueEvent(int character, int kind, int prop) {
        String text = "4/99," + (char) ('A' + character) + KINDS.charAt(kind) + (kind < 3 ? "" + prop : "");
        Counted x = new Counted();
        Check.write(x, text);
        Check.due("putPanel() of " + text, x.putPanel(), 0);
        Check.due("the events of " + text, x.panel(0, 2), 1);
        Check.due("the character of " + text, x.event(0, 0, 0), character);
        Check.due("the kind of " + text, x.event(0, 0, 1), kind);
        Check.due("the prop of " + text, x.event(0, 0, 2), kind < 3 ? prop : Check.NONE);
    }

    private static void wrongEvents() {
        Check.sentence("TEXTS", "each behind a \",\"");
        dueFault("0/1,,", 4);
        dueFault("0/1,,A.", 4);
        dueFault("0/1 ,A.", 3);
        dueFault("0/1;A.", 3);
        dueFault("0/1,A.B.", 6);
        dueFault("0/1,A. ", 6);
        dueFault("0/1,A+1B.", 7);
        Check.sentence("TEXTS", "a character (A to D)");
        for (char sign : "E@a0+. Z".toCharArray()) {
            dueFault("0/1," + sign + ".", 4);
            dueFault("0/12,A+0," + sign + ".", 9);
        }
        Check.sentence("TEXTS", "\"+\" and a prop (0 to 9), \"-\" and a prop, \"=\" and a prop");
        for (char kind : "+-=".toCharArray()) {
            for (char sign : ",A/:+ .".toCharArray()) {
                dueFault("0/1,A" + kind + sign, 6);
            }
            dueFault("0/1,A" + kind + "12", 7);
        }
        Check.sentence("TEXTS", "\">\", \"<\" or \".\"");
        for (char kind : "><.".toCharArray()) {
            dueFault("0/1,A" + kind + "1", 6);
            dueFault("0/1,A" + kind + kind, 6);
        }
        for (char sign : "A1,*?/".toCharArray()) {
            dueFault("0/1,A" + sign, 5);
        }
    }

    private static void sixEventsAtMost() {
        Check.sentence("TEXTS", "at most 6 events");
        for (int events = 0; events <= 6; events++) {
            dueFault("0/1" + ",A.".repeat(events), FINE);
            dueFault("0/12" + ",D=9".repeat(events), FINE);
        }
        dueFault("0/1,A.,A.,A.,A.,A.,A.,", 21);
        dueFault("0/1,A.,A.,A.,A.,A.,A.,A.", 21);
        dueFault("0/1,A.,A.,A.,A.,A.,A.X", 21);
        dueFault(LONGEST + ",A.", 28);
        dueFault(LONGEST + "0", 28);
        dueFault("0/12,A+0,A+0,A+0,A+0,A+0,A+", 27);
        Counted x = Check.board("3/45,A+0,B-1,C=2,D>,A<,B.");
        int[][] due = {{0, 0, 0}, {1, 1, 1}, {2, 2, 2}, {3, 3, Check.NONE}, {0, 4, Check.NONE}, {1, 5, Check.NONE}};
        for (int event = 0; event < 6; event++) {
            for (int what = 0; what < 3; what++) {
                Check.due("event(0, " + event + ", " + what + ") of six", x.event(0, event, what), due[event][what]);
            }
        }
    }

    private static void textsThatEndTooEarly() {
        Check.sentence("TEXTS", "or the length of the text if it ends too early (the empty text does)");
        dueFault("", 0);
        dueFault("0", 1);
        dueFault("0/", 2);
        dueFault("0/1,", 4);
        dueFault("0/12,", 5);
        dueFault("0/1,A", 5);
        // Behind the duration, and behind each event, a text may end.
        String ends = "  **   *   *   *   *   *   *";
        for (int length = 0; length <= LONGEST.length(); length++) {
            boolean fine = length > 0 && ends.charAt(length - 1) == '*';
            dueFault(LONGEST.substring(0, length), fine ? FINE : length);
        }
    }

    /** At each place of a text, every sign up to 700, and those that are the allowed ones but for a high byte. */
    private static void everySignAtEveryPlace() {
        Check.sentence("TEXTS", "the index, from 0, of the first character that is not allowed at its place");
        String text = "0/1,A+0,B.";
        String[] allowed = {"01234", "/", "123456789", ",", "ABCD", "+-=", "0123456789", ",", "ABCD", "><."};
        // These are allowed there, but what stands behind them isn't then.
        String[] allowedButFor = {"", "", "", "0123456789", "", "><.", "", "", "", "+-="};
        for (int place = 0; place < text.length(); place++) {
            for (int sign = 0; sign <= 700; sign++) {
                String changed = text.substring(0, place) + (char) sign + text.substring(place + 1);
                boolean fine = allowed[place].indexOf(sign) >= 0;
                boolean early = allowedButFor[place].indexOf(sign) >= 0;
                dueFault(changed, fine ? FINE : early ? place + 1 : place);
            }
            for (char sign : allowed[place].toCharArray()) {
                dueFault(text.substring(0, place) + (char) (sign + 0xFF00) + text.substring(place + 1), place);
                dueFault(text.substring(0, place) + (char) (sign + 0x8000) + text.substring(place + 1), place);
            }
        }
    }
}

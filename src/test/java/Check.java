/** What all tests of the project share: the due answers, texts that are typed, and the end. */
final class Check {
    static final int UNKNOWN = -1;
    static final int BAD_VALUE = -2;
    static final int FULL = -3;
    static final int NONE = -5;

    private static int made = 0;
    private static int wrong = 0;

    private Check() {
    }

    static void due(String what, long got, long want) {
        made++;
        if (got != want) {
            wrong++;
            if (wrong <= 50) {
                System.out.println(what + " answered " + got + ", due is " + want);
            }
        }
    }

    /** Types a text in place of the one that was. */
    static void write(StoryPanels x, String text) {
        x.clearText();
        for (char sign : text.toCharArray()) {
            x.type(sign);
        }
    }

    /** Puts a panel that is due to be read without a fault; answers its number. */
    static int put(StoryPanels x, String text) {
        write(x, text);
        int number = x.putPanel();
        if (number < 0) {
            due("putPanel() of " + text, number, 0);
        }
        return number;
    }

    /** A board with the panels of these texts, numbered from 0. */
    static StoryPanels board(String... texts) {
        StoryPanels x = new StoryPanels();
        for (String text : texts) {
            put(x, text);
        }
        return x;
    }

    /** The order of the board, its panels parted by blanks. */
    static String line(StoryPanels x) {
        StringBuilder line = new StringBuilder();
        for (int rank = 0; x.at(rank) != NONE; rank++) {
            line.append(rank == 0 ? "" : " ").append(x.at(rank));
        }
        return line.toString();
    }

    /** The breaks of the board, each as "panel:kind:character:prop:event", with "_" for NONE. */
    static String breaks(StoryPanels x) {
        StringBuilder all = new StringBuilder();
        for (int rank = 0; x.breakOf(rank, 0) != NONE; rank++) {
            all.append(rank == 0 ? "" : " ");
            for (int what = 0; what < 5; what++) {
                int number = x.breakOf(rank, what);
                all.append(what == 0 ? "" : ":").append(number == NONE ? "_" : String.valueOf(number));
            }
        }
        return all.toString();
    }

    static void dueText(String what, String got, String want) {
        made++;
        if (!got.equals(want)) {
            wrong++;
            System.out.println(what + " answered \"" + got + "\", due is \"" + want + "\"");
        }
    }

    /** All that a board tells, so that two states can be compared. */
    static String told(StoryPanels x) {
        StringBuilder all = new StringBuilder(line(x)).append(" | ").append(breaks(x)).append(" |");
        for (int rank = 0; x.at(rank) != NONE; rank++) {
            int panel = x.at(rank);
            for (int what = 0; what <= 6; what++) {
                all.append(' ').append(x.panel(panel, what));
            }
            for (int event = 0; event < x.panel(panel, 2); event++) {
                for (int what = 0; what <= 2; what++) {
                    all.append(',').append(x.event(panel, event, what));
                }
            }
        }
        for (int scene = 0; scene < 5; scene++) {
            for (int what = 0; what <= 4; what++) {
                all.append(' ').append(x.scene(scene, what));
            }
        }
        for (int what = 0; what <= 10; what++) {
            all.append(' ').append(x.count(what));
        }
        return all.toString();
    }

    static void end(String test) {
        System.out.println(test + ": " + made + " answers looked at, " + wrong + " wrong");
        if (wrong != 0 || made == 0) {
            System.exit(1);
        }
    }
}

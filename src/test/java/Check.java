import java.util.Arrays;

/** What all tests of the project share: the sentences, the due answers, boards and the end. */
final class Check {
    static final int UNKNOWN = -1;
    static final int BAD_VALUE = -2;
    static final int FULL = -3;
    static final int NONE = -5;

    static final int MIN = Integer.MIN_VALUE;
    static final int MAX = Integer.MAX_VALUE;
    /** Far from every bound; as bytes or shorts, or times a small number, many would be in it again. */
    static final int[] FAR = {MIN, -65536, -256, 256, 65536, 1 << 30, 858993459, MAX};

    private static final long PATIENCE = 300_000;

    private static String sentence = "";
    private static int lookedAtBefore = 0;
    private static int lookedAt = 0;
    private static int wrong = 0;

    static {
        Thread watch = new Thread(Check::endWhatNeverEnds);
        watch.setDaemon(true);
        watch.start();
    }

    private Check() {
    }

    private static void endWhatNeverEnds() {
        try {
            Thread.sleep(PATIENCE);
        } catch (InterruptedException interrupted) {
            return;
        }
        System.out.println(sentence + ": a call does not end");
        Runtime.getRuntime().halt(1);
    }

    /** Begins the test of a sentence: where it stands in the document, and its words. */
    static void sentence(String where, String words) {
        topic(where + ", \"" + words + "\"");
        if (!Document.says(where, words)) {
            fail("these words do not stand there");
        }
    }

    /** Begins a test that holds the program to more than one sentence. */
    static void topic(String what) {
        endOfSentence();
        sentence = what;
    }

    private static void endOfSentence() {
        if (!sentence.isEmpty() && lookedAt == lookedAtBefore) {
            fail("nothing is looked at");
        }
        lookedAtBefore = lookedAt;
    }

    static void fail(String what) {
        wrong++;
        if (wrong <= 50) {
            System.out.println(sentence + ": " + what);
        }
    }

    static void due(String what, long got, long want) {
        lookedAt++;
        if (got != want) {
            fail(what + " answered " + got + ", due is " + want);
        }
    }

    static void dueText(String what, String got, String want) {
        lookedAt++;
        if (!got.equals(want)) {
            fail(what + " answered \"" + got + "\", due is \"" + want + "\"");
        }
    }

    static void end(String test) {
        endOfSentence();
        System.out.println(test + ": " + lookedAt + " answers looked at, " + wrong + " wrong");
        if (wrong != 0 || lookedAt == 0) {
            System.exit(1);
        }
    }

    /** The near values, then those of FAR. */
    static int[] wrong(int... near) {
        int[] all = Arrays.copyOf(near, near.length + FAR.length);
        System.arraycopy(FAR, 0, all, near.length, FAR.length);
        return all;
    }

    /** Types a text in place of the one that was. */
    static void write(Counted x, String text) {
        x.clearText();
        for (char sign : text.toCharArray()) {
            x.type(sign);
        }
    }

    /** Puts a panel that is due to be read without a fault; answers its number. */
    static int put(Counted x, String text) {
        write(x, text);
        int number = x.putPanel();
        if (number < 0) {
            due("putPanel() of " + text, number, 0);
        }
        return number;
    }

    /** A board with the panels of these texts, numbered from 0. */
    static Counted board(String... texts) {
        Counted x = new Counted();
        for (String text : texts) {
            put(x, text);
        }
        return x;
    }

    /** A board with so many panels of one text. */
    static Counted boardOf(int panels, String text) {
        Counted x = new Counted();
        write(x, text);
        for (int number = 0; number < panels; number++) {
            x.putPanel();
        }
        return x;
    }

    /** The order of the board, its panels parted by blanks. */
    static String line(Counted x) {
        StringBuilder line = new StringBuilder();
        for (int panel = x.at(0), rank = 1; panel >= 0; panel = x.at(rank++)) {
            line.append(rank == 1 ? "" : " ").append(panel);
        }
        return line.toString();
    }

    /** The breaks of the board, each as "panel:kind:character:prop:event", with "_" for NONE. */
    static String breaks(Counted x) {
        StringBuilder all = new StringBuilder();
        for (int panel = x.breakOf(0, 0), rank = 0; panel >= 0; panel = x.breakOf(++rank, 0)) {
            all.append(rank == 0 ? "" : " ").append(panel);
            for (int what = 1; what < 5; what++) {
                int number = x.breakOf(rank, what);
                all.append(':').append(number == NONE ? "_" : String.valueOf(number));
            }
        }
        return all.toString();
    }

    /** All that a board tells of its state, so that two states can be compared. */
    static String told(Counted x) {
        String line = line(x);
        StringBuilder all = new StringBuilder(line).append(" | ").append(breaks(x)).append(" |");
        for (String panel : line.isEmpty() ? new String[0] : line.split(" ")) {
            tellPanel(x, Integer.parseInt(panel), all);
        }
        all.append(" |");
        for (int scene = 0; scene < 5; scene++) {
            all.append(' ').append(x.scene(scene, 0)).append(':').append(x.scene(scene, 4));
        }
        for (int what = 0; what <= 5; what++) {
            all.append(' ').append(x.count(what));
        }
        return all.toString();
    }

    private static void tellPanel(Counted x, int panel, StringBuilder all) {
        all.append(' ').append(x.panel(panel, 0)).append('/').append(x.panel(panel, 1));
        int events = x.panel(panel, 2);
        for (int event = 0; event < events; event++) {
            all.append(',');
            for (int what = 0; what <= 2; what++) {
                all.append(x.event(panel, event, what));
            }
        }
    }
}

/** Boards of all kinds of three events, and long runs of calls, on the program and on the Model. */
public final class ModelTest {
    private static final int RUNS = 1500;
    private static final int CALLS = 512;
    private static final int[] ODD = {-1, -2, 5, 6, 7, 10, 13, 60, 98, 99, 100, 1 << 30,
        Integer.MAX_VALUE, Integer.MIN_VALUE, 65536, 214748365, -214748365};

    private static long seed = 20261119;
    private static final int[] acts = new int[4];

    private final Counted x = new Counted();
    private final Model m = new Model();
    private final int run;
    private int calls = 0;
    private final int props;
    private final int scenes;

    private ModelTest(int run) {
        this.run = run;
        // Few props and scenes bring characters together; some runs have all of them.
        props = 1 + pick(run % 3 == 0 ? 10 : 3);
        scenes = 1 + pick(5);
    }

    public static void main(String[] args) {
        Check.topic("the breaks of any three events, in one panel to three");
        everyThreeEvents();
        Check.topic("promises 1 to 23 in long runs of calls");
        for (int run = 0; run < RUNS; run++) {
            new ModelTest(run).go();
        }
        Check.due("runs in which mend moved twice", acts[0] > 100 ? 1 : 0, 1);
        Check.due("runs in which the board was full", acts[1] > 100 ? 1 : 0, 1);
        Check.due("calls behind which there were over ten breaks", acts[2] > 100 ? 1 : 0, 1);
        Check.due("bestPlaces behind the first one", acts[3] > 100 ? 1 : 0, 1);
        Check.end("ModelTest");
    }

    /** Of two characters with two props; the first one is of A, for the other way round is no other case. */
    private static void everyThreeEvents() {
        String[] kinds = {"+0", "+9", "-0", "-9", "=0", "=9", ">", "<", "."};
        String[] events = new String[2 * kinds.length];
        for (int index = 0; index < events.length; index++) {
            events[index] = (index < kinds.length ? ",A" : ",D") + kinds[index % kinds.length];
        }
        for (int first = 0; first < kinds.length; first++) {
            for (String second : events) {
                for (String third : events) {
                    threeEvents("0/1" + events[first] + second + third);
                    threeEvents("0/1" + events[first], "0/1" + second + third);
                    threeEvents("0/1" + events[first] + second, "0/1" + third);
                    threeEvents("0/1" + events[first], "0/1" + second, "0/1" + third);
                    threeEvents("0/1" + events[first], "1/1" + second, "1/1" + third);
                }
            }
        }
    }

    private static void threeEvents(String... texts) {
        Counted x = Check.board(texts);
        Model m = new Model();
        for (String text : texts) {
            m.clearText();
            for (char sign : text.toCharArray()) {
                m.type(sign);
            }
            m.putPanel();
        }
        String told = String.join(" ", texts);
        int breaks = m.count(3);
        for (int rank = 0; rank <= breaks; rank++) {
            for (int what = 0; what < 5; what++) {
                Check.due(told + ": breakOf(" + rank + ", " + what + ")", x.breakOf(rank, what), m.breakOf(rank, what));
            }
        }
        for (int panel = 0; panel < texts.length; panel++) {
            Check.due(told + ": holder(0, " + panel + ")", x.holder(0, panel), m.holder(0, panel));
            Check.due(told + ": holder(9, " + panel + ")", x.holder(9, panel), m.holder(9, panel));
        }
    }

    /** 0 to bound - 1. */
    private static int pick(int bound) {
        seed = seed * 6364136223846793005L + 1442695040888963407L;
        return (int) ((seed >>> 33) % bound);
    }

    /** Mostly 0 to bound - 1, now and then something else. */
    private static int about(int bound) {
        return pick(25) == 0 ? ODD[pick(ODD.length)] : pick(bound);
    }

    private int panel() {
        int size = m.count(0);
        if (size > 0 && pick(20) != 0) {
            return m.at(pick(size));
        }
        return about(Math.max(1, m.count(1) + 1));
    }

    private void due(String call, int got, int want) {
        calls++;
        Check.due("run " + run + ", call " + calls + ": " + call, got, want);
    }

    private void go() {
        while (calls < CALLS) {
            int which = pick(100);
            if (which < 14 && calls < CALLS - 40) {
                putSomething();
            } else if (which < 50) {
                act(which);
            } else {
                ask(which);
            }
        }
    }

    private void putSomething() {
        due("clearText()", x.clearText(), m.clearText());
        String text = text();
        for (int index = 0; index < text.length(); index++) {
            char sign = text.charAt(index);
            due("type(" + (int) sign + ")", x.type(sign), m.type(sign));
        }
        int panel = panel();
        int got;
        if (pick(5) == 0) {
            got = x.redraw(panel);
            due("redraw(" + panel + ") of " + text, got, m.redraw(panel));
        } else {
            got = x.putPanel();
            due("putPanel() of " + text, got, m.putPanel());
        }
        if (got == Check.FULL) {
            acts[1]++;
        }
    }

    private String text() {
        StringBuilder text = new StringBuilder();
        text.append((char) ('0' + pick(scenes))).append('/').append(1 + pick(99));
        int events = pick(pick(3) == 0 ? 7 : 4);
        for (int event = 0; event < events; event++) {
            int kind = pick(6);
            text.append(',').append((char) ('A' + pick(1 + pick(4)))).append("+-=><.".charAt(kind));
            if (kind < 3) {
                text.append((char) ('0' + pick(props)));
            }
        }
        if (pick(8) == 0) {
            text.setCharAt(pick(text.length()), "0/59,ADE+>.* 1".charAt(pick(14)));
        }
        if (pick(12) == 0) {
            text.setLength(pick(text.length()));
        }
        if (pick(20) == 0) {
            text.append(",A.");
        }
        return text.toString();
    }

    private void act(int which) {
        int panel = panel();
        int scene = about(scenes);
        int place = about(4);
        if (which < 17) {
            due("putPanel()", x.putPanel(), m.putPanel());
        } else if (which < 19) {
            due("redraw(" + panel + ")", x.redraw(panel), m.redraw(panel));
        } else if (which < 21) {
            due("takeAway(" + panel + ")", x.takeAway(panel), m.takeAway(panel));
        } else if (which < 28) {
            due("move(" + panel + ", " + scene + ", " + place + ")", x.move(panel, scene, place),
                    m.move(panel, scene, place));
        } else if (which < 32) {
            int other = about(5);
            due("moveScene(" + scene + ", " + other + ")", x.moveScene(scene, other), m.moveScene(scene, other));
        } else if (which < 35) {
            int duration = pick(9) == 0 ? m.panel(panel, 1) : about(102);
            due("time(" + panel + ", " + duration + ")", x.time(panel, duration), m.time(panel, duration));
        } else if (which < 40) {
            int got = x.mend(scene);
            due("mend(" + scene + ")", got, m.mend(scene));
            acts[0] += got == 2 ? 1 : 0;
        } else if (which < 45) {
            due("undo()", x.undo(), m.undo());
        } else if (which < 47) {
            due("keep()", x.keep(), m.keep());
        } else if (which < 48) {
            due("restore()", x.restore(), m.restore());
        } else {
            char sign = (char) pick(pick(2) == 0 ? 65536 : 128);
            due("type(" + (int) sign + ")", x.type(sign), m.type(sign));
        }
    }

    private void ask(int which) {
        int panel = panel();
        int scene = about(5);
        int what = about(7);
        if (which < 58) {
            due("panel(" + panel + ", " + what + ")", x.panel(panel, what), m.panel(panel, what));
        } else if (which < 62) {
            int event = about(6);
            int of = about(4);
            due("event(" + panel + ", " + event + ", " + of + ")", x.event(panel, event, of), m.event(panel, event, of));
        } else if (which < 65) {
            int rank = about(10);
            due("at(" + rank + ")", x.at(rank), m.at(rank));
        } else if (which < 70) {
            due("scene(" + scene + ", " + what + ")", x.scene(scene, what), m.scene(scene, what));
        } else if (which < 75) {
            int prop = about(props);
            due("holder(" + prop + ", " + panel + ")", x.holder(prop, panel), m.holder(prop, panel));
        } else if (which < 83) {
            int rank = about(Math.max(3, m.count(3)));
            int of = about(5);
            due("breakOf(" + rank + ", " + of + ")", x.breakOf(rank, of), m.breakOf(rank, of));
        } else if (which < 87) {
            int of = about(3);
            due("firstBreak(" + scene + ", " + of + ")", x.firstBreak(scene, of), m.firstBreak(scene, of));
        } else if (which < 91) {
            int place = about(4);
            due("ifMoved(" + panel + ", " + scene + ", " + place + ")", x.ifMoved(panel, scene, place),
                    m.ifMoved(panel, scene, place));
        } else if (which < 95) {
            int got = x.bestPlace(panel, scene);
            due("bestPlace(" + panel + ", " + scene + ")", got, m.bestPlace(panel, scene));
            acts[3] += got > 0 ? 1 : 0;
        } else {
            int of = about(14);
            int got = x.count(of);
            due("count(" + of + ")", got, m.count(of));
            acts[2] += of == 3 && got > 10 ? 1 : 0;
        }
    }
}

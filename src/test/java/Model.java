import java.util.ArrayList;
import java.util.HashMap;
import java.util.HashSet;
import java.util.List;
import java.util.Map;
import java.util.Set;
import java.util.regex.Matcher;
import java.util.regex.Pattern;

/** The document told a second time, with lists and maps, copied whole for each act. */
final class Model {
    private static final Pattern WHOLE =
            Pattern.compile("[0-4]/[1-9][0-9]?(,[A-D]([+=\\-][0-9]|[><.])){0,6}");
    private static final String KINDS = "+-=><.";

    /** A panel is never changed: another one comes in its place. */
    private record Panel(int number, int duration, List<String> events) {
    }

    /** rows.get(scene) is the row of a scene, order its scenes. */
    private record State(int soFar, List<Integer> order, List<List<Panel>> rows) {
        State copy() {
            List<List<Panel>> copies = new ArrayList<>();
            for (List<Panel> row : rows) {
                copies.add(new ArrayList<>(row));
            }
            return new State(soFar, new ArrayList<>(order), copies);
        }

        List<Panel> line() {
            List<Panel> line = new ArrayList<>();
            for (int scene : order) {
                line.addAll(rows.get(scene));
            }
            return line;
        }

        int sceneOf(int number) {
            for (int scene = 0; scene < 5; scene++) {
                for (Panel one : rows.get(scene)) {
                    if (one.number() == number) {
                        return scene;
                    }
                }
            }
            return -1;
        }

        Panel panel(int number) {
            for (Panel one : line()) {
                if (one.number() == number) {
                    return one;
                }
            }
            return null;
        }

        State moved(int number, int scene, int place) {
            State then = copy();
            Panel one = panel(number);
            then.rows.get(sceneOf(number)).remove(one);
            then.rows.get(scene).add(place, one);
            return then;
        }

        int placesFor(int number, int scene) {
            return rows.get(scene).size() + (sceneOf(number) == scene ? 0 : 1);
        }
    }

    private State state;
    private State snapshot = null;
    private final List<State> history = new ArrayList<>();
    private String text = "";
    private Map<Integer, Integer> holders = new HashMap<>();

    Model() {
        List<List<Panel>> rows = new ArrayList<>();
        for (int scene = 0; scene < 5; scene++) {
            rows.add(new ArrayList<>());
        }
        state = new State(0, new ArrayList<>(List.of(0, 1, 2, 3, 4)), rows);
    }

    private void become(State next) {
        history.add(state);
        if (history.size() > 4) {
            history.remove(0);
        }
        state = next;
    }

    private static int fault(String text) {
        for (int length = 1; length <= text.length(); length++) {
            Matcher matcher = WHOLE.matcher(text.substring(0, length));
            if (!matcher.matches() && !matcher.hitEnd()) {
                return length - 1;
            }
        }
        return WHOLE.matcher(text).matches() ? -1 : text.length();
    }

    /** The breaks of the first so many panels, as {panel, kind, character, prop, event}. */
    private List<int[]> breaks(State of, int panels) {
        List<int[]> found = new ArrayList<>();
        Map<Integer, Integer> holds = new HashMap<>();
        int gone = 0;
        for (int scene : of.order()) {
            Map<Integer, Character> way = new HashMap<>();
            for (Panel one : of.rows().get(scene)) {
                if (gone++ == panels) {
                    holders = holds;
                    return found;
                }
                Set<String> with = new HashSet<>();
                Set<Integer> there = new HashSet<>();
                for (int event = 0; event < one.events().size(); event++) {
                    String told = one.events().get(event);
                    int who = told.charAt(0) - 'A';
                    char kind = told.charAt(1);
                    there.add(who);
                    if (told.length() == 2) {
                        Character before = kind == '.' ? way.remove(who) : way.put(who, kind);
                        if (kind != '.' && before != null && before != kind) {
                            found.add(new int[] {one.number(), 5, who, -5, event});
                        }
                        continue;
                    }
                    int prop = told.charAt(2) - '0';
                    with.add(who + " " + prop);
                    Integer holder = holds.remove(prop);
                    boolean own = holder != null && holder == who;
                    if (kind == '+' ? holder != null : !own) {
                        found.add(new int[] {one.number(), 1 + KINDS.indexOf(kind), who, prop, event});
                    }
                    if (kind != '-') {
                        holds.put(prop, who);
                    }
                }
                for (int pair = 0; pair < 40; pair++) {
                    int who = pair / 10;
                    int prop = pair % 10;
                    boolean held = holds.containsKey(prop) && holds.get(prop) == who;
                    if (there.contains(who) && held && !with.contains(who + " " + prop)) {
                        found.add(new int[] {one.number(), 4, who, prop, -5});
                    }
                }
            }
        }
        holders = holds;
        return found;
    }

    private List<int[]> breaks() {
        return breaks(state, 1000);
    }

    private Panel read(int number) {
        String[] parts = text.split("[/,]");
        return new Panel(number, Integer.parseInt(parts[1]), List.of(parts).subList(2, parts.length));
    }

    int putPanel() {
        if (fault(text) >= 0) {
            return -100 - fault(text);
        }
        if (state.line().size() == 10 || state.soFar() == 99) {
            return -3;
        }
        State copy = state.copy();
        copy.rows().get(text.charAt(0) - '0').add(read(state.soFar()));
        become(new State(state.soFar() + 1, copy.order(), copy.rows()));
        return state.soFar() - 1;
    }

    int redraw(int panel) {
        if (state.panel(panel) == null) {
            return -1;
        }
        if (fault(text) >= 0) {
            return -100 - fault(text);
        }
        State copy = state.copy();
        int scene = text.charAt(0) - '0';
        List<Panel> row = copy.rows().get(state.sceneOf(panel));
        int place = row.indexOf(state.panel(panel));
        row.remove(place);
        List<Panel> target = copy.rows().get(scene);
        target.add(scene == state.sceneOf(panel) ? place : target.size(), read(panel));
        become(copy);
        return state.panel(panel).events().size();
    }

    int takeAway(int panel) {
        if (state.panel(panel) == null) {
            return -1;
        }
        State copy = state.copy();
        copy.rows().get(state.sceneOf(panel)).remove(state.panel(panel));
        become(copy);
        return state.line().size();
    }

    int move(int panel, int scene, int place) {
        if (state.panel(panel) == null || scene < 0 || scene > 4) {
            return -1;
        }
        if (place < 0 || place >= state.placesFor(panel, scene)) {
            return -2;
        }
        if (state.rows().get(scene).indexOf(state.panel(panel)) == place) {
            return -5;
        }
        become(state.moved(panel, scene, place));
        return breaks().size();
    }

    int moveScene(int scene, int place) {
        if (scene < 0 || scene > 4) {
            return -1;
        }
        if (place < 0 || place > 4) {
            return -2;
        }
        if (state.order().get(place) == scene) {
            return -5;
        }
        State copy = state.copy();
        copy.order().remove(Integer.valueOf(scene));
        copy.order().add(place, scene);
        become(copy);
        return breaks().size();
    }

    int time(int panel, int duration) {
        Panel before = state.panel(panel);
        if (before == null) {
            return -1;
        }
        if (duration < 1 || duration > 99) {
            return -2;
        }
        if (before.duration() == duration) {
            return -5;
        }
        State copy = state.copy();
        List<Panel> row = copy.rows().get(state.sceneOf(panel));
        row.set(row.indexOf(before), new Panel(panel, duration, before.events()));
        become(copy);
        return before.duration();
    }

    int mend(int scene) {
        if (scene < 0 || scene > 4) {
            return -1;
        }
        State then = state;
        int moves = 0;
        boolean found = true;
        while (found && moves < 2) {
            found = false;
            for (int number = 0; number < 99 && !found; number++) {
                if (then.sceneOf(number) != scene) {
                    continue;
                }
                State best = then.moved(number, scene, best(then, number, scene));
                if (breaks(best, 1000).size() < breaks(then, 1000).size()) {
                    found = true;
                    moves++;
                    then = best;
                }
            }
        }
        if (moves == 0) {
            return -5;
        }
        become(then);
        return moves;
    }

    private int best(State of, int panel, int scene) {
        int best = -1;
        int fewest = Integer.MAX_VALUE;
        for (int place = of.placesFor(panel, scene) - 1; place >= 0; place--) {
            int breaks = breaks(of.moved(panel, scene, place), 1000).size();
            if (breaks <= fewest) {
                fewest = breaks;
                best = place;
            }
        }
        return best;
    }

    int type(char character) {
        if (text.length() == 60) {
            return -3;
        }
        text += character;
        return text.length();
    }

    int clearText() {
        int length = text.length();
        text = "";
        return length;
    }

    int undo() {
        if (history.isEmpty()) {
            return -5;
        }
        state = history.remove(history.size() - 1);
        return history.size();
    }

    int keep() {
        snapshot = state;
        return state.line().size();
    }

    int restore() {
        if (snapshot == null) {
            return -5;
        }
        become(snapshot);
        return state.line().size();
    }

    int panel(int panel, int what) {
        Panel one = state.panel(panel);
        if (one == null) {
            return -1;
        }
        int rank = state.line().indexOf(one);
        int scene = state.sceneOf(panel);
        int tick = state.line().subList(0, rank).stream().mapToInt(Panel::duration).sum();
        int breaks = (int) breaks().stream().filter(b -> b[0] == panel).count();
        int[] told = {scene, one.duration(), one.events().size(), state.rows().get(scene).indexOf(one),
            tick, rank, breaks};
        return what < 0 || what > 6 ? -2 : told[what];
    }

    int event(int panel, int event, int what) {
        Panel one = state.panel(panel);
        if (one == null || event < 0 || event >= one.events().size()) {
            return -1;
        }
        String told = one.events().get(event);
        switch (what) {
            case 0: return told.charAt(0) - 'A';
            case 1: return KINDS.indexOf(told.charAt(1));
            case 2: return told.length() == 3 ? told.charAt(2) - '0' : -5;
            default: return -2;
        }
    }

    int at(int rank) {
        if (rank < 0) {
            return -2;
        }
        return rank < state.line().size() ? state.line().get(rank).number() : -5;
    }

    int scene(int scene, int what) {
        if (scene < 0 || scene > 4) {
            return -1;
        }
        List<Panel> row = state.rows().get(scene);
        int ahead = 0;
        for (int other : state.order().subList(0, state.order().indexOf(scene))) {
            ahead += state.rows().get(other).stream().mapToInt(Panel::duration).sum();
        }
        int breaks = (int) breaks().stream().filter(b -> state.sceneOf(b[0]) == scene).count();
        int[] told = {state.order().indexOf(scene), row.size(), row.stream().mapToInt(Panel::duration).sum(),
            breaks, ahead};
        return what < 0 || what > 4 ? -2 : told[what];
    }

    int holder(int prop, int panel) {
        if (state.panel(panel) == null || prop < 0 || prop > 9) {
            return -1;
        }
        breaks(state, state.line().indexOf(state.panel(panel)) + 1);
        return holders.getOrDefault(prop, -5);
    }

    int breakOf(int rank, int what) {
        if (rank < 0 || what < 0 || what > 4) {
            return -2;
        }
        return rank < breaks().size() ? breaks().get(rank)[what] : -5;
    }

    int firstBreak(int scene, int what) {
        if (scene < 0 || scene > 4) {
            return -1;
        }
        if (what < 0 || what > 2) {
            return -2;
        }
        int ahead = 0;
        for (int[] one : breaks()) {
            if (state.sceneOf(one[0]) == scene) {
                return what == 2 ? ahead : one[what];
            }
            ahead++;
        }
        return -5;
    }

    int ifMoved(int panel, int scene, int place) {
        if (state.panel(panel) == null || scene < 0 || scene > 4) {
            return -1;
        }
        if (place < 0 || place >= state.placesFor(panel, scene)) {
            return -2;
        }
        return breaks(state.moved(panel, scene, place), 1000).size();
    }

    int bestPlace(int panel, int scene) {
        if (state.panel(panel) == null || scene < 0 || scene > 4) {
            return -1;
        }
        return best(state, panel, scene);
    }

    int count(int what) {
        List<int[]> breaks = breaks();
        switch (what) {
            case 0: return state.line().size();
            case 1: return state.soFar();
            case 2: return state.line().stream().mapToInt(Panel::duration).sum();
            case 3: return breaks.size();
            case 4: return state.line().stream().mapToInt(p -> p.events().size()).sum();
            case 5: return holders.size();
            case 6: case 7: case 8: case 9: case 10:
                return (int) breaks.stream().filter(b -> b[1] == what - 5).count();
            case 11: return history.size();
            case 12: return text.length();
            default: return -2;
        }
    }
}

/** Panels of a storyboard, shuffled by scenes, with the breaks of their continuity. */
public final class StoryPanels {
    public static final int UNKNOWN = -1;
    public static final int BAD_VALUE = -2;
    public static final int FULL = -3;
    public static final int NOT_POSSIBLE = -4;
    public static final int NONE = -5;

    private static final int SCENES = 5;
    private static final int PANELS = 10;
    private static final int PANELS_EVER = 99;
    private static final int LONGEST = 99;
    private static final int EVENTS = 6;
    private static final int CHARACTERS = 4;
    private static final int PROPS = 10;
    private static final int SIGNS = 60;
    private static final int STATES = 4;
    private static final int MENDING_MOVES = 2;

    private static final int PICKS_UP = 0;
    private static final int PUTS_DOWN = 1;
    private static final int DRAWN_WITH = 2;
    private static final int MOVES_RIGHT = 3;
    private static final int MOVES_LEFT = 4;
    private static final int STANDS = 5;

    private static final int PICKS_UP_HELD = 1;
    private static final int PUTS_DOWN_NOT_HELD = 2;
    private static final int DRAWN_NOT_HELD = 3;
    private static final int HOLDS_UNDRAWN = 4;
    private static final int TURNS = 5;

    // A break is told by these numbers, in the order of breakOf().
    private static final int BREAK_PANEL = 0;
    private static final int BREAK_KIND = 1;
    private static final int BREAK_CHARACTER = 2;
    private static final int BREAK_PROP = 3;
    private static final int BREAK_EVENT = 4;
    private static final int BREAK_NUMBERS = 5;

    // Each event brings one break at most, and behind each panel each prop one more.
    private static final int BREAKS = PANELS * (EVENTS + PROPS);

    // Stands for "not there" inside the program; no slot, rank, place, sign or event has it.
    private static final int ABSENT = -1;
    private static final int FAULT_BASE = -100;

    private final Board board;
    private final Board snapshot;
    private boolean snapshotTaken;
    private final History history;
    private final PanelText text;
    private final Continuity continuity;

    public StoryPanels() {
        board = new Board();
        snapshot = new Board();
        snapshotTaken = false;
        history = new History();
        text = new PanelText();
        continuity = new Continuity();
    }

    // ---- panels

    public int putPanel() {
        int fault = text.findFault();
        if (fault != ABSENT) {
            return FAULT_BASE - fault;
        }
        if (!board.hasRoom()) {
            return FULL;
        }
        history.remember(board);
        return board.addPanel(text);
    }

    public int redraw(int panel) {
        int slot = board.slotOf(panel);
        if (slot == ABSENT) {
            return UNKNOWN;
        }
        int fault = text.findFault();
        if (fault != ABSENT) {
            return FAULT_BASE - fault;
        }
        history.remember(board);
        board.drawByText(slot, text);
        return board.eventsIn(slot);
    }

    public int takeAway(int panel) {
        int slot = board.slotOf(panel);
        if (slot == ABSENT) {
            return UNKNOWN;
        }
        history.remember(board);
        board.removePanel(slot);
        return board.size;
    }

    public int move(int panel, int scene, int place) {
        int slot = board.slotOf(panel);
        if (slot == ABSENT || !isScene(scene)) {
            return UNKNOWN;
        }
        if (!board.hasPlaceFor(slot, scene, place)) {
            return BAD_VALUE;
        }
        if (board.sceneOf(slot) == scene && board.placeOf(slot) == place) {
            return NONE;
        }
        history.remember(board);
        board.takeOut(slot);
        board.putIn(slot, scene, place);
        return breaksNow();
    }

    public int moveScene(int scene, int place) {
        if (!isScene(scene)) {
            return UNKNOWN;
        }
        if (!isScenePlace(place)) {
            return BAD_VALUE;
        }
        if (board.placeOfScene(scene) == place) {
            return NONE;
        }
        history.remember(board);
        board.putSceneAt(scene, place);
        return breaksNow();
    }

    public int time(int panel, int duration) {
        int slot = board.slotOf(panel);
        if (slot == ABSENT) {
            return UNKNOWN;
        }
        if (duration < 1 || duration > LONGEST) {
            return BAD_VALUE;
        }
        int previous = board.durationOf(slot);
        if (previous == duration) {
            return NONE;
        }
        history.remember(board);
        board.setDuration(slot, duration);
        return previous;
    }

    public int mend(int scene) {
        if (!isScene(scene)) {
            return UNKNOWN;
        }
        int moves = 0;
        for (int round = 0; round < MENDING_MOVES; round++) {
            int slot = lowestToMend(scene);
            if (slot == ABSENT) {
                break;
            }
            int place = lowestBestPlace(slot, scene);
            // All moves are one act: only the state ahead of the first one is kept.
            if (moves == 0) {
                history.remember(board);
            }
            board.takeOut(slot);
            board.putIn(slot, scene, place);
            moves++;
        }
        return moves == 0 ? NONE : moves;
    }

    // ---- texts

    public int type(char character) {
        if (text.length >= SIGNS) {
            return FULL;
        }
        text.append(character);
        return text.length;
    }

    public int clearText() {
        int before = text.length;
        text.length = 0;
        return before;
    }

    // ---- history

    public int undo() {
        if (history.size == 0) {
            return NONE;
        }
        history.takeBack(board);
        return history.size;
    }

    public int keep() {
        snapshot.copyFrom(board);
        snapshotTaken = true;
        return board.size;
    }

    public int restore() {
        if (!snapshotTaken) {
            return NONE;
        }
        history.remember(board);
        board.copyFrom(snapshot);
        return board.size;
    }

    // ---- what is told

    public int panel(int panel, int what) {
        int slot = board.slotOf(panel);
        if (slot == ABSENT) {
            return UNKNOWN;
        }
        switch (what) {
            case 0: return board.sceneOf(slot);
            case 1: return board.durationOf(slot);
            case 2: return board.eventsIn(slot);
            case 3: return board.placeOf(slot);
            case 4: return board.ticksAhead(board.rankOf(slot));
            case 5: return board.rankOf(slot);
            case 6: return breaksHaving(BREAK_PANEL, panel);
            default: return BAD_VALUE;
        }
    }

    public int event(int panel, int event, int what) {
        int slot = board.slotOf(panel);
        if (slot == ABSENT || event < 0 || event >= board.eventsIn(slot)) {
            return UNKNOWN;
        }
        int code = board.eventCode(slot, event);
        switch (what) {
            case 0: return characterIn(code);
            case 1: return kindIn(code);
            case 2: return takesProp(kindIn(code)) ? propIn(code) : NONE;
            default: return BAD_VALUE;
        }
    }

    public int at(int rank) {
        if (rank < 0) {
            return BAD_VALUE;
        }
        if (rank >= board.size) {
            return NONE;
        }
        return board.numberOf(board.slotAt(rank));
    }

    public int scene(int scene, int what) {
        if (!isScene(scene)) {
            return UNKNOWN;
        }
        switch (what) {
            case 0: return board.placeOfScene(scene);
            case 1: return board.panelsIn(scene);
            case 2: return ticksOfScene(scene);
            case 3: return breaksOfScene(scene);
            case 4: return board.ticksAhead(board.panelsAhead(scene));
            default: return BAD_VALUE;
        }
    }

    public int holder(int prop, int panel) {
        int slot = board.slotOf(panel);
        if (slot == ABSENT || prop < 0 || prop >= PROPS) {
            return UNKNOWN;
        }
        continuity.goThrough(board, board.rankOf(slot) + 1);
        int character = continuity.holderOf(prop);
        return character == ABSENT ? NONE : character;
    }

    public int breakOf(int rank, int what) {
        if (rank < 0 || what < 0 || what >= BREAK_NUMBERS) {
            return BAD_VALUE;
        }
        if (rank >= breaksNow()) {
            return NONE;
        }
        return continuity.numberOfBreak(rank, what);
    }

    public int firstBreak(int scene, int what) {
        if (!isScene(scene)) {
            return UNKNOWN;
        }
        if (what < 0 || what > 2) {
            return BAD_VALUE;
        }
        int rank = rankOfFirstBreak(scene);
        if (rank == ABSENT) {
            return NONE;
        }
        switch (what) {
            case 0: return continuity.numberOfBreak(rank, BREAK_PANEL);
            case 1: return continuity.numberOfBreak(rank, BREAK_KIND);
            // All breaks ahead of a scene's first one are those of other scenes.
            default: return rank;
        }
    }

    public int ifMoved(int panel, int scene, int place) {
        int slot = board.slotOf(panel);
        if (slot == ABSENT || !isScene(scene)) {
            return UNKNOWN;
        }
        if (!board.hasPlaceFor(slot, scene, place)) {
            return BAD_VALUE;
        }
        return breaksWith(slot, scene, place);
    }

    public int bestPlace(int panel, int scene) {
        int slot = board.slotOf(panel);
        if (slot == ABSENT || !isScene(scene)) {
            return UNKNOWN;
        }
        return lowestBestPlace(slot, scene);
    }

    public int count(int what) {
        switch (what) {
            case 0: return board.size;
            case 1: return board.soFar;
            case 2: return board.ticksAhead(board.size);
            case 3: return breaksNow();
            case 4: return board.eventsOfAll();
            case 5: return propsHeldAtTheEnd();
            case 6: return breaksHaving(BREAK_KIND, PICKS_UP_HELD);
            case 7: return breaksHaving(BREAK_KIND, PUTS_DOWN_NOT_HELD);
            case 8: return breaksHaving(BREAK_KIND, DRAWN_NOT_HELD);
            case 9: return breaksHaving(BREAK_KIND, HOLDS_UNDRAWN);
            case 10: return breaksHaving(BREAK_KIND, TURNS);
            case 11: return history.size;
            case 12: return text.length;
            default: return BAD_VALUE;
        }
    }

    // ---- breaks

    private int breaksNow() {
        continuity.goThrough(board, board.size);
        return continuity.breaks;
    }

    /** Tries a place on the board itself and moves the panel back, so that no copy is needed. */
    private int breaksWith(int slot, int scene, int place) {
        int sceneBefore = board.sceneOf(slot);
        int placeBefore = board.placeOf(slot);
        board.takeOut(slot);
        board.putIn(slot, scene, place);
        continuity.goThrough(board, board.size);
        board.takeOut(slot);
        board.putIn(slot, sceneBefore, placeBefore);
        return continuity.breaks;
    }

    private int lowestBestPlace(int slot, int scene) {
        int best = 0;
        int fewest = breaksWith(slot, scene, 0);
        int places = board.placesFor(slot, scene);
        for (int place = 1; place < places; place++) {
            int breaks = breaksWith(slot, scene, place);
            if (breaks < fewest) {
                fewest = breaks;
                best = place;
            }
        }
        return best;
    }

    /** The slot of the lowest panel of a scene that brings fewer breaks at another place of it. */
    private int lowestToMend(int scene) {
        int now = breaksNow();
        if (now == 0) {
            return ABSENT;
        }
        for (int number = 0; number < board.soFar && number < PANELS_EVER; number++) {
            int slot = board.slotOf(number);
            if (slot == ABSENT || board.sceneOf(slot) != scene) {
                continue;
            }
            int places = board.placesFor(slot, scene);
            for (int place = 0; place < places; place++) {
                if (breaksWith(slot, scene, place) < now) {
                    return slot;
                }
            }
        }
        return ABSENT;
    }

    /** How many breaks have this value as one of the numbers that breakOf() tells. */
    private int breaksHaving(int what, int value) {
        int all = breaksNow();
        int found = 0;
        for (int rank = 0; rank < all; rank++) {
            if (continuity.numberOfBreak(rank, what) == value) {
                found++;
            }
        }
        return found;
    }

    private int breaksOfScene(int scene) {
        int all = breaksNow();
        int found = 0;
        for (int rank = 0; rank < all; rank++) {
            if (sceneOfBreak(rank) == scene) {
                found++;
            }
        }
        return found;
    }

    private int rankOfFirstBreak(int scene) {
        int all = breaksNow();
        for (int rank = 0; rank < all; rank++) {
            if (sceneOfBreak(rank) == scene) {
                return rank;
            }
        }
        return ABSENT;
    }

    private int sceneOfBreak(int rank) {
        int number = continuity.numberOfBreak(rank, BREAK_PANEL);
        return board.sceneOf(board.slotOf(number));
    }

    private int propsHeldAtTheEnd() {
        continuity.goThrough(board, board.size);
        return continuity.propsHeld();
    }

    private int ticksOfScene(int scene) {
        int first = board.panelsAhead(scene);
        return board.ticksAhead(first + board.panelsIn(scene)) - board.ticksAhead(first);
    }

    // ---- small questions

    private static boolean isScene(int scene) {
        return scene >= 0 && scene < SCENES;
    }

    private static boolean isScenePlace(int place) {
        return place >= 0 && place < SCENES;
    }

    private static boolean takesProp(int kind) {
        return kind == PICKS_UP || kind == PUTS_DOWN || kind == DRAWN_WITH;
    }

    // An event is one number, so that a panel's events are one stretch of a row.

    private static int codeOf(int character, int kind, int prop) {
        return character * 100 + kind * 10 + prop;
    }

    private static int characterIn(int code) {
        return code / 100;
    }

    private static int kindIn(int code) {
        return code / 10 % 10;
    }

    private static int propIn(int code) {
        return code % 10;
    }

    // Every row is read and written here, so that each index is looked at before it is used.

    private static int cell(int[] row, int index) {
        return index >= 0 && index < row.length ? row[index] : ABSENT;
    }

    private static void setCell(int[] row, int index, int value) {
        if (index >= 0 && index < row.length) {
            row[index] = value;
        }
    }

    private static void copyRow(int[] from, int[] to) {
        for (int index = 0; index < from.length && index < to.length; index++) {
            to[index] = from[index];
        }
    }

    private static void fillRow(int[] row, int value) {
        for (int index = 0; index < row.length; index++) {
            row[index] = value;
        }
    }

    /** A state: the panels, each in a slot, their order, and the order of the scenes. */
    private static final class Board {
        private final int[] numbers = new int[PANELS];
        private final int[] scenes = new int[PANELS];
        private final int[] durations = new int[PANELS];
        private final int[] eventCounts = new int[PANELS];
        private final int[] eventCodes = new int[PANELS * EVENTS];
        private final int[] line = new int[PANELS];
        private final int[] scenePlaces = new int[SCENES];
        private int size = 0;
        private int soFar = 0;

        Board() {
            fillRow(numbers, ABSENT);
            for (int scene = 0; scene < SCENES; scene++) {
                setCell(scenePlaces, scene, scene);
            }
        }

        void copyFrom(Board other) {
            copyRow(other.numbers, numbers);
            copyRow(other.scenes, scenes);
            copyRow(other.durations, durations);
            copyRow(other.eventCounts, eventCounts);
            copyRow(other.eventCodes, eventCodes);
            copyRow(other.line, line);
            copyRow(other.scenePlaces, scenePlaces);
            size = other.size;
            soFar = other.soFar;
        }

        boolean hasRoom() {
            return size < PANELS && soFar < PANELS_EVER;
        }

        int slotOf(int number) {
            // A free slot has the number ABSENT, which is no panel's.
            if (number < 0) {
                return ABSENT;
            }
            for (int slot = 0; slot < PANELS; slot++) {
                if (cell(numbers, slot) == number) {
                    return slot;
                }
            }
            return ABSENT;
        }

        private int freeSlot() {
            for (int slot = 0; slot < PANELS; slot++) {
                if (cell(numbers, slot) == ABSENT) {
                    return slot;
                }
            }
            return ABSENT;
        }

        int numberOf(int slot) {
            return cell(numbers, slot);
        }

        int sceneOf(int slot) {
            return cell(scenes, slot);
        }

        int durationOf(int slot) {
            return cell(durations, slot);
        }

        void setDuration(int slot, int duration) {
            setCell(durations, slot, duration);
        }

        int eventsIn(int slot) {
            return cell(eventCounts, slot);
        }

        int eventCode(int slot, int event) {
            return cell(eventCodes, slot * EVENTS + event);
        }

        int placeOfScene(int scene) {
            return cell(scenePlaces, scene);
        }

        int slotAt(int rank) {
            return rank < size ? cell(line, rank) : ABSENT;
        }

        int rankOf(int slot) {
            for (int rank = 0; rank < size; rank++) {
                if (cell(line, rank) == slot) {
                    return rank;
                }
            }
            return ABSENT;
        }

        int placeOf(int slot) {
            return rankOf(slot) - panelsAhead(sceneOf(slot));
        }

        int panelsIn(int scene) {
            int found = 0;
            for (int rank = 0; rank < size; rank++) {
                if (cell(scenes, cell(line, rank)) == scene) {
                    found++;
                }
            }
            return found;
        }

        /** How many panels stand in the scenes ahead of this one. */
        int panelsAhead(int scene) {
            int scenePlace = cell(scenePlaces, scene);
            int found = 0;
            for (int rank = 0; rank < size; rank++) {
                if (cell(scenePlaces, cell(scenes, cell(line, rank))) < scenePlace) {
                    found++;
                }
            }
            return found;
        }

        /** The sum of the durations of the panels ahead of a rank. */
        int ticksAhead(int rank) {
            int ticks = 0;
            for (int ahead = 0; ahead < rank && ahead < size; ahead++) {
                ticks += durationOf(cell(line, ahead));
            }
            return ticks;
        }

        int eventsOfAll() {
            int events = 0;
            for (int rank = 0; rank < size; rank++) {
                events += eventsIn(cell(line, rank));
            }
            return events;
        }

        /** How many places a scene has for a panel: one more than the other panels that it has. */
        int placesFor(int slot, int scene) {
            int panels = panelsIn(scene);
            return sceneOf(slot) == scene ? panels : panels + 1;
        }

        boolean hasPlaceFor(int slot, int scene, int place) {
            return place >= 0 && place < placesFor(slot, scene);
        }

        int addPanel(PanelText text) {
            int slot = freeSlot();
            int number = soFar;
            setCell(numbers, slot, number);
            soFar++;
            drawEvents(slot, text);
            putIn(slot, text.scene, panelsIn(text.scene));
            return number;
        }

        void drawByText(int slot, PanelText text) {
            drawEvents(slot, text);
            if (sceneOf(slot) != text.scene) {
                takeOut(slot);
                putIn(slot, text.scene, panelsIn(text.scene));
            }
        }

        private void drawEvents(int slot, PanelText text) {
            setCell(durations, slot, text.duration);
            setCell(eventCounts, slot, text.events);
            for (int event = 0; event < EVENTS; event++) {
                setCell(eventCodes, slot * EVENTS + event, cell(text.eventCodes, event));
            }
        }

        void removePanel(int slot) {
            takeOut(slot);
            setCell(numbers, slot, ABSENT);
        }

        void takeOut(int slot) {
            int rank = rankOf(slot);
            if (rank == ABSENT) {
                return;
            }
            for (int behind = rank + 1; behind < size; behind++) {
                setCell(line, behind - 1, cell(line, behind));
            }
            size--;
        }

        void putIn(int slot, int scene, int place) {
            setCell(scenes, slot, scene);
            int rank = panelsAhead(scene) + place;
            for (int behind = size; behind > rank; behind--) {
                setCell(line, behind, cell(line, behind - 1));
            }
            setCell(line, rank, slot);
            size++;
        }

        void putSceneAt(int scene, int place) {
            int before = placeOfScene(scene);
            for (int other = 0; other < SCENES; other++) {
                int otherPlace = placeOfScene(other);
                if (otherPlace > before && otherPlace <= place) {
                    setCell(scenePlaces, other, otherPlace - 1);
                } else if (otherPlace < before && otherPlace >= place) {
                    setCell(scenePlaces, other, otherPlace + 1);
                }
            }
            setCell(scenePlaces, scene, place);
            sortLine();
        }

        /** Sorts by scenes; an insertion keeps the row of each scene as it was. */
        private void sortLine() {
            for (int next = 1; next < size; next++) {
                for (int rank = next; rank > 0; rank--) {
                    if (scenePlaceAt(rank - 1) <= scenePlaceAt(rank)) {
                        break;
                    }
                    swapWithPrevious(rank);
                }
            }
        }

        private int scenePlaceAt(int rank) {
            return cell(scenePlaces, cell(scenes, cell(line, rank)));
        }

        private void swapWithPrevious(int rank) {
            int slot = cell(line, rank);
            setCell(line, rank, cell(line, rank - 1));
            setCell(line, rank - 1, slot);
        }
    }

    /** The latest states, the oldest one first. */
    private static final class History {
        private final Board[] states = new Board[STATES];
        private int size = 0;

        History() {
            for (int index = 0; index < states.length; index++) {
                states[index] = new Board();
            }
        }

        void remember(Board board) {
            if (size >= STATES) {
                dropOldest();
            }
            Board state = stateAt(size);
            if (state == null) {
                return;
            }
            state.copyFrom(board);
            size++;
        }

        void takeBack(Board board) {
            Board state = stateAt(size - 1);
            if (state == null) {
                return;
            }
            board.copyFrom(state);
            size--;
        }

        private Board stateAt(int index) {
            return index >= 0 && index < states.length ? states[index] : null;
        }

        /** The oldest one goes behind the others, where it will be written over. */
        private void dropOldest() {
            Board oldest = stateAt(0);
            for (int index = 1; index < states.length; index++) {
                states[index - 1] = states[index];
            }
            if (states.length > 0) {
                states[states.length - 1] = oldest;
            }
            size--;
        }
    }

    /** The text, and the panel that it tells of. */
    private static final class PanelText {
        private final int[] signs = new int[SIGNS];
        private int length = 0;
        private int scene = 0;
        private int duration = 0;
        private int events = 0;
        private final int[] eventCodes = new int[EVENTS];

        void append(int sign) {
            setCell(signs, length, sign);
            length++;
        }

        /** Reads the text as a panel; answers the index of the fault, ABSENT if there is none. */
        int findFault() {
            scene = digitAt(0);
            if (!isScene(scene)) {
                return 0;
            }
            if (signAt(1) != '/') {
                return 1;
            }
            duration = digitAt(2);
            if (duration < 1) {
                return 2;
            }
            int ones = digitAt(3);
            if (ones == ABSENT) {
                return findFaultInEvents(3);
            }
            duration = duration * 10 + ones;
            return findFaultInEvents(4);
        }

        private int findFaultInEvents(int start) {
            int next = start;
            events = 0;
            for (int event = 0; event < EVENTS && next < length; event++) {
                if (signAt(next) != ',') {
                    return next;
                }
                int character = characterAt(next + 1);
                if (character == ABSENT) {
                    return next + 1;
                }
                int kind = kindAt(next + 2);
                if (kind == ABSENT) {
                    return next + 2;
                }
                int prop = takesProp(kind) ? digitAt(next + 3) : 0;
                if (prop == ABSENT) {
                    return next + 3;
                }
                setCell(eventCodes, event, codeOf(character, kind, prop));
                events++;
                next += takesProp(kind) ? 4 : 3;
            }
            return next < length ? next : ABSENT;
        }

        private int signAt(int index) {
            return index < length ? cell(signs, index) : ABSENT;
        }

        private int digitAt(int index) {
            int sign = signAt(index);
            return sign >= '0' && sign <= '9' ? sign - '0' : ABSENT;
        }

        private int characterAt(int index) {
            int sign = signAt(index);
            return sign >= 'A' && sign < 'A' + CHARACTERS ? sign - 'A' : ABSENT;
        }

        private int kindAt(int index) {
            switch (signAt(index)) {
                case '+': return PICKS_UP;
                case '-': return PUTS_DOWN;
                case '=': return DRAWN_WITH;
                case '>': return MOVES_RIGHT;
                case '<': return MOVES_LEFT;
                case '.': return STANDS;
                default: return ABSENT;
            }
        }
    }

    /** Goes through a board and finds its breaks. */
    private static final class Continuity {
        private final int[] holders = new int[PROPS];
        private final int[] moved = new int[CHARACTERS];
        // Of each character, the props of its events in this panel, a bit each.
        private final int[] drawnProps = new int[CHARACTERS];
        // The characters that have an event in this panel, a bit each.
        private int seen = 0;
        private final int[] breakNumbers = new int[BREAKS * BREAK_NUMBERS];
        private int breaks = 0;

        /** Goes through the first so many panels. */
        void goThrough(Board board, int panels) {
            fillRow(holders, ABSENT);
            breaks = 0;
            int latestScene = ABSENT;
            for (int rank = 0; rank < panels && rank < PANELS; rank++) {
                int slot = board.slotAt(rank);
                int scene = board.sceneOf(slot);
                if (scene != latestScene) {
                    fillRow(moved, ABSENT);
                    latestScene = scene;
                }
                passPanel(board, slot);
            }
        }

        private void passPanel(Board board, int slot) {
            int number = board.numberOf(slot);
            int events = board.eventsIn(slot);
            fillRow(drawnProps, 0);
            seen = 0;
            for (int event = 0; event < events; event++) {
                int code = board.eventCode(slot, event);
                seen |= 1 << characterIn(code);
                if (takesProp(kindIn(code))) {
                    passProp(number, event, code);
                } else {
                    passMove(number, event, code);
                }
            }
            findUndrawn(number);
        }

        private void passProp(int number, int event, int code) {
            int character = characterIn(code);
            int kind = kindIn(code);
            int prop = propIn(code);
            int holder = cell(holders, prop);
            if (kind == PICKS_UP && holder != ABSENT) {
                addBreak(number, PICKS_UP_HELD, character, prop, event);
            }
            if (kind == PUTS_DOWN && holder != character) {
                addBreak(number, PUTS_DOWN_NOT_HELD, character, prop, event);
            }
            if (kind == DRAWN_WITH && holder != character) {
                addBreak(number, DRAWN_NOT_HELD, character, prop, event);
            }
            setCell(holders, prop, kind == PUTS_DOWN ? ABSENT : character);
            setCell(drawnProps, character, cell(drawnProps, character) | 1 << prop);
        }

        private void passMove(int number, int event, int code) {
            int character = characterIn(code);
            int kind = kindIn(code);
            if (kind == STANDS) {
                setCell(moved, character, ABSENT);
                return;
            }
            int before = cell(moved, character);
            if (before != ABSENT && before != kind) {
                addBreak(number, TURNS, character, NONE, event);
            }
            setCell(moved, character, kind);
        }

        private void findUndrawn(int number) {
            for (int character = 0; character < CHARACTERS; character++) {
                if ((seen >> character & 1) == 0) {
                    continue;
                }
                int drawn = cell(drawnProps, character);
                for (int prop = 0; prop < PROPS; prop++) {
                    if (cell(holders, prop) == character && (drawn >> prop & 1) == 0) {
                        addBreak(number, HOLDS_UNDRAWN, character, prop, NONE);
                    }
                }
            }
        }

        private void addBreak(int number, int kind, int character, int prop, int event) {
            int start = breaks * BREAK_NUMBERS;
            if (start < 0 || start + BREAK_NUMBERS > breakNumbers.length) {
                return;
            }
            breakNumbers[start + BREAK_PANEL] = number;
            breakNumbers[start + BREAK_KIND] = kind;
            breakNumbers[start + BREAK_CHARACTER] = character;
            breakNumbers[start + BREAK_PROP] = prop;
            breakNumbers[start + BREAK_EVENT] = event;
            breaks++;
        }

        int numberOfBreak(int rank, int what) {
            return cell(breakNumbers, rank * BREAK_NUMBERS + what);
        }

        int holderOf(int prop) {
            return cell(holders, prop);
        }

        int propsHeld() {
            int props = 0;
            for (int prop = 0; prop < PROPS; prop++) {
                if (cell(holders, prop) != ABSENT) {
                    props++;
                }
            }
            return props;
        }
    }
}

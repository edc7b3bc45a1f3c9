/** Places hints by anchors in a view, as ../shared/DOC.md promises. */
public final class HintPlacer {
    public static final int INVALID_ARGUMENT = -10001;
    public static final int NOT_POSSIBLE = -10002;
    public static final int LIMIT_REACHED = -10003;
    public static final int NOT_FOUND = -10004;

    private static final int MOST_ANCHORS = 10;
    private static final int MOST_HINTS = 12;
    private static final int MOST_STATES = 5;
    private static final int MOST_SIGNS = 60;
    private static final int LEAST_VIEW_SIZE = 20;
    private static final int MOST_VIEW_SIZE = 400;
    private static final int MOST_SIZE = 200;
    private static final int FARTHEST_VIEW = 2000;
    private static final int FARTHEST_ANCHOR = 1000;
    private static final int FARTHEST_SCROLL = 1000;
    private static final int FARTHEST_POINT = 3000;

    // Properties of an anchor, numbered as anchorOf numbers them.
    private static final int X = 0;
    private static final int Y = 1;
    private static final int ANCHOR_WIDTH = 2;
    private static final int ANCHOR_HEIGHT = 3;
    private static final int ANCHOR_VALUES = 4;

    // Properties of a hint, numbered as alter numbers them, and two behind them that alter can't reach.
    private static final int ANCHOR = 0;
    private static final int WIDTH = 1;
    private static final int HEIGHT = 2;
    private static final int SIDE = 3;
    private static final int ALIGNMENT = 4;
    private static final int FLIP = 5;
    private static final int SHIFT = 6;
    private static final int PRIORITY = 7;
    private static final int ALTERABLE = 8;
    private static final int OPENING = 8;
    private static final int REMEMBERED = 9;
    private static final int HINT_VALUES = 10;

    // The settings, numbered as set numbers them.
    private static final int GAP = 0;
    private static final int ARROW = 1;
    private static final int MOST_SHOWN = 2;
    private static final int REMEMBERING = 3;
    private static final int OFF_ANCHORS = 4;
    private static final int SETTINGS = 5;

    // The sides go clockwise; the one right of the anchor is 1.
    private static final int ABOVE = 0;
    private static final int BELOW = 2;
    private static final int LEFT = 3;
    private static final int SIDES = 4;
    private static final int NO_SIDE = -1;
    private static final int NOT_OPENED = 0;

    private static final int SHOWN = 0;
    private static final int CLOSED = 1;
    private static final int ANCHOR_OUT_OF_SIGHT = 2;
    private static final int OUT_OF_SIGHT = 3;
    private static final int NOT_FREE = 4;
    private static final int TOO_MANY = 5;

    private static final int NO_FAULT = 0;
    private static final int BAD_FORM = 1;
    private static final int NO_SUCH_HINT = 2;

    // Where the parts of a state stand in its row.
    private static final int VIEW_X = 0;
    private static final int VIEW_Y = 1;
    private static final int VIEW_WIDTH = 2;
    private static final int VIEW_HEIGHT = 3;
    private static final int ANCHORS = 4;
    private static final int HINTS = 5;
    private static final int OPENINGS = 6;
    private static final int FIRST_SETTING = 7;
    private static final int FIRST_ANCHOR = FIRST_SETTING + SETTINGS;
    private static final int FIRST_HINT = FIRST_ANCHOR + MOST_ANCHORS * ANCHOR_VALUES;
    private static final int STATE_LENGTH = FIRST_HINT + MOST_HINTS * HINT_VALUES;

    private final State state = new State();
    private final History history = new History();
    private final Showing showing = new Showing();
    private final Orders orders = new Orders();
    private final Tries tries = new Tries();
    private final Place place = new Place();

    public HintPlacer() {
    }

    // ---- view and anchors

    public int view(int width, int height) {
        if (!isViewSize(width) || !isViewSize(height)) {
            return INVALID_ARGUMENT;
        }
        history.keep(state);
        state.put(VIEW_WIDTH, width);
        state.put(VIEW_HEIGHT, height);
        return showing.arrange(state);
    }

    public int scroll(int dx, int dy) {
        if (!isWithin(dx, FARTHEST_SCROLL) || !isWithin(dy, FARTHEST_SCROLL)) {
            return INVALID_ARGUMENT;
        }
        if (!canMoveView(dx, dy)) {
            return NOT_POSSIBLE;
        }
        history.keep(state);
        moveView(dx, dy);
        return showing.arrange(state);
    }

    public int anchor(int x, int y, int width, int height) {
        if (!isWithin(x, FARTHEST_ANCHOR) || !isWithin(y, FARTHEST_ANCHOR)) {
            return INVALID_ARGUMENT;
        }
        if (!isSize(width) || !isSize(height)) {
            return INVALID_ARGUMENT;
        }
        int number = state.get(ANCHORS);
        if (number >= MOST_ANCHORS) {
            return LIMIT_REACHED;
        }
        history.keep(state);
        state.put(ANCHORS, number + 1);
        state.putAnchorValue(number, X, x);
        state.putAnchorValue(number, Y, y);
        state.putAnchorValue(number, ANCHOR_WIDTH, width);
        state.putAnchorValue(number, ANCHOR_HEIGHT, height);
        showing.arrange(state);
        return number;
    }

    public int moveAnchor(int anchor, int x, int y) {
        if (!isAnchor(anchor) || !isWithin(x, FARTHEST_ANCHOR) || !isWithin(y, FARTHEST_ANCHOR)) {
            return INVALID_ARGUMENT;
        }
        history.keep(state);
        state.putAnchorValue(anchor, X, x);
        state.putAnchorValue(anchor, Y, y);
        return showing.arrange(state);
    }

    public int anchorOf(int anchor, int what) {
        if (!isAnchor(anchor)) {
            return INVALID_ARGUMENT;
        }
        switch (what) {
            case X:
            case Y:
            case ANCHOR_WIDTH:
            case ANCHOR_HEIGHT:
                return state.anchorValue(anchor, what);
            case 4:
                return state.isAnchorInSight(anchor) ? 1 : 0;
            case 5:
                return countHintsOf(anchor, false);
            case 6:
                return countHintsOf(anchor, true);
            default:
                return INVALID_ARGUMENT;
        }
    }

    public int set(int what, int value) {
        if (what < 0 || what >= SETTINGS || value < lowestSetting(what) || value > highestSetting(what)) {
            return INVALID_ARGUMENT;
        }
        int previous = state.setting(what);
        history.keep(state);
        state.put(FIRST_SETTING + what, value);
        showing.arrange(state);
        return previous;
    }

    public int count(int what) {
        if (what >= 11 && what < 11 + SETTINGS) {
            return state.setting(what - 11);
        }
        switch (what) {
            case 0:
                return state.get(VIEW_X);
            case 1:
                return state.get(VIEW_Y);
            case 2:
                return state.get(VIEW_WIDTH);
            case 3:
                return state.get(VIEW_HEIGHT);
            case 4:
                return state.get(ANCHORS);
            case 5:
                return state.get(HINTS);
            case 6:
                return countOpen();
            case 7:
                return showing.shown;
            case 8:
                return countRemembered();
            case 9:
                return history.states;
            case 10:
                return orders.length;
            case 16:
                return countCovered();
            case 17:
                // Shown hints have no point in common, so no two have the same corner.
                return showing.shown;
            default:
                return INVALID_ARGUMENT;
        }
    }

    // ---- hints

    public int hint(int anchor, int width, int height, int side, int alignment) {
        if (!isAnchor(anchor) || !isSize(width) || !isSize(height)) {
            return INVALID_ARGUMENT;
        }
        if (!isSide(side) || alignment < 0 || alignment > highestValue(ALIGNMENT)) {
            return INVALID_ARGUMENT;
        }
        int number = state.get(HINTS);
        if (number >= MOST_HINTS) {
            return LIMIT_REACHED;
        }
        history.keep(state);
        state.put(HINTS, number + 1);
        state.putHintValue(number, ANCHOR, anchor);
        state.putHintValue(number, WIDTH, width);
        state.putHintValue(number, HEIGHT, height);
        state.putHintValue(number, SIDE, side);
        state.putHintValue(number, ALIGNMENT, alignment);
        state.putHintValue(number, FLIP, 0);
        state.putHintValue(number, SHIFT, 0);
        state.putHintValue(number, PRIORITY, 0);
        state.putHintValue(number, OPENING, NOT_OPENED);
        state.putHintValue(number, REMEMBERED, NO_SIDE);
        showing.arrange(state);
        return number;
    }

    public int alter(int hint, int what, int value) {
        if (!isHint(hint) || what < 0 || what >= ALTERABLE) {
            return INVALID_ARGUMENT;
        }
        if (value < lowestValue(what) || value > highestValue(what)) {
            return INVALID_ARGUMENT;
        }
        int previous = state.hintValue(hint, what);
        history.keep(state);
        state.putHintValue(hint, what, value);
        if (what == ANCHOR || what == SIDE) {
            state.putHintValue(hint, REMEMBERED, NO_SIDE);
        }
        showing.arrange(state);
        return previous;
    }

    public int open(int hint) {
        if (!isHint(hint)) {
            return INVALID_ARGUMENT;
        }
        if (state.isOpen(hint)) {
            return NOT_POSSIBLE;
        }
        history.keep(state);
        openHint(hint);
        showing.arrange(state);
        return showing.reasons.get(hint);
    }

    public int close(int hint) {
        if (!isHint(hint)) {
            return INVALID_ARGUMENT;
        }
        if (!state.isOpen(hint)) {
            return NOT_POSSIBLE;
        }
        history.keep(state);
        closeHint(hint);
        return showing.arrange(state);
    }

    public int settle() {
        history.keep(state);
        int changed = rememberSides();
        showing.arrange(state);
        return changed;
    }

    public int hintOf(int hint, int what) {
        if (!isHint(hint) || what < 0 || what > 16) {
            return INVALID_ARGUMENT;
        }
        if (what < ALTERABLE) {
            return state.hintValue(hint, what);
        }
        if (what == 8) {
            return showing.reasons.get(hint);
        }
        if (what == 15) {
            int side = state.hintValue(hint, REMEMBERED);
            return side == NO_SIDE ? NOT_FOUND : side;
        }
        if (what == 16) {
            return state.isOpen(hint) ? state.turn(hint) : NOT_FOUND;
        }
        return showing.reasons.get(hint) == SHOWN ? shownValue(hint, what) : NOT_FOUND;
    }

    public int room(int hint, int side) {
        if (!isHint(hint) || !isSide(side)) {
            return INVALID_ARGUMENT;
        }
        boolean level = isLevel(side);
        int viewBegin = state.get(level ? VIEW_Y : VIEW_X);
        int viewLength = state.get(level ? VIEW_HEIGHT : VIEW_WIDTH);
        int edge = edgeBy(state, state.hintValue(hint, ANCHOR), side);
        return isBefore(side) ? edge - viewBegin : viewBegin + viewLength - edge;
    }

    public int ifOn(int hint, int side, int what) {
        if (!isHint(hint) || !isSide(side)) {
            return INVALID_ARGUMENT;
        }
        place.find(state, hint, side, state.get(VIEW_WIDTH), state.get(VIEW_HEIGHT));
        switch (what) {
            case 0:
                return place.inSight ? 1 : 0;
            case 1:
                return place.x;
            case 2:
                return place.y;
            case 3:
                return place.shift;
            case 4:
                return place.arrow;
            default:
                return INVALID_ARGUMENT;
        }
    }

    public int at(int x, int y) {
        if (!isWithin(x, FARTHEST_POINT) || !isWithin(y, FARTHEST_POINT)) {
            return INVALID_ARGUMENT;
        }
        int found = showing.shownThatMeets(state, x, y, 1, 1);
        return found < 0 ? NOT_FOUND : found;
    }

    public int sizeFor(int hint, int what) {
        if (!isHint(hint) || what < 0 || what > 1) {
            return INVALID_ARGUMENT;
        }
        tries.list(state, hint);
        for (int size = LEAST_VIEW_SIZE; size <= MOST_VIEW_SIZE; size++) {
            int width = what == 0 ? size : state.get(VIEW_WIDTH);
            int height = what == 1 ? size : state.get(VIEW_HEIGHT);
            if (isInSightOnATry(hint, width, height)) {
                return size;
            }
        }
        return NOT_FOUND;
    }

    public int undo() {
        if (history.states == 0) {
            return NOT_POSSIBLE;
        }
        history.restore(state);
        showing.arrange(state);
        return history.states;
    }

    // ---- orders

    public int type(int character) {
        if (character < 32 || character > 126) {
            return INVALID_ARGUMENT;
        }
        if (orders.length >= MOST_SIGNS) {
            return LIMIT_REACHED;
        }
        orders.append(character);
        return orders.length;
    }

    public int clearText() {
        int length = orders.length;
        orders.length = 0;
        return length;
    }

    public int fault(int what) {
        if (what < 0 || what > 1) {
            return INVALID_ARGUMENT;
        }
        int reason = orders.findFault(state.get(HINTS));
        if (reason == NO_FAULT) {
            return NOT_FOUND;
        }
        return what == 0 ? orders.begin : reason;
    }

    public int carry() {
        if (orders.findFault(state.get(HINTS)) != NO_FAULT) {
            return NOT_POSSIBLE;
        }
        history.keep(state);
        int carried = 0;
        int next = 0;
        while (carried < MOST_SIGNS && next < orders.length) {
            if (!orders.read(next) || !carryOrder()) {
                break;
            }
            // An order to settle goes by what is shown right before it.
            showing.arrange(state);
            next = orders.end;
            carried++;
        }
        return carried;
    }

    // ---- ranges of arguments

    private static boolean isWithin(int value, int farthest) {
        return value >= -farthest && value <= farthest;
    }

    private static boolean isSize(int value) {
        return value >= 1 && value <= MOST_SIZE;
    }

    private static boolean isViewSize(int value) {
        return value >= LEAST_VIEW_SIZE && value <= MOST_VIEW_SIZE;
    }

    private static boolean isSide(int side) {
        return side >= 0 && side < SIDES;
    }

    private boolean isAnchor(int anchor) {
        return anchor >= 0 && anchor < state.get(ANCHORS);
    }

    private boolean isHint(int hint) {
        return hint >= 0 && hint < state.get(HINTS);
    }

    private static int lowestSetting(int what) {
        return what == MOST_SHOWN ? 1 : 0;
    }

    private static int highestSetting(int what) {
        switch (what) {
            case GAP:
                return 30;
            case ARROW:
                return 20;
            case MOST_SHOWN:
                return 6;
            default:
                return 1;
        }
    }

    private static int lowestValue(int what) {
        return what == WIDTH || what == HEIGHT ? 1 : 0;
    }

    private int highestValue(int what) {
        switch (what) {
            case ANCHOR:
                return state.get(ANCHORS) - 1;
            case WIDTH:
            case HEIGHT:
                return MOST_SIZE;
            case SIDE:
                return SIDES - 1;
            case ALIGNMENT:
            case FLIP:
                return 2;
            case SHIFT:
                return 1;
            default:
                return 9;
        }
    }

    // ---- changes that calls and orders share

    private boolean canMoveView(int dx, int dy) {
        return isWithin(state.get(VIEW_X) + dx, FARTHEST_VIEW) && isWithin(state.get(VIEW_Y) + dy, FARTHEST_VIEW);
    }

    private void moveView(int dx, int dy) {
        state.put(VIEW_X, state.get(VIEW_X) + dx);
        state.put(VIEW_Y, state.get(VIEW_Y) + dy);
    }

    private void openHint(int hint) {
        int opening = state.get(OPENINGS) + 1;
        state.put(OPENINGS, opening);
        state.putHintValue(hint, OPENING, opening);
    }

    private void closeHint(int hint) {
        state.putHintValue(hint, OPENING, NOT_OPENED);
        state.putHintValue(hint, REMEMBERED, NO_SIDE);
    }

    private int rememberSides() {
        int changed = 0;
        for (int hint = 0; hint < state.get(HINTS); hint++) {
            if (showing.reasons.get(hint) == SHOWN) {
                if (state.hintValue(hint, REMEMBERED) != showing.sides.get(hint)) {
                    changed++;
                }
                state.putHintValue(hint, REMEMBERED, showing.sides.get(hint));
            }
        }
        return changed;
    }

    /** Carries out the order that was read last, unless it is not possible. */
    private boolean carryOrder() {
        switch (orders.kind) {
            case 'o':
                if (!isHint(orders.first) || state.isOpen(orders.first)) {
                    return false;
                }
                openHint(orders.first);
                return true;
            case 'c':
                if (!isHint(orders.first) || !state.isOpen(orders.first)) {
                    return false;
                }
                closeHint(orders.first);
                return true;
            case 'v':
                if (!canMoveView(orders.first, orders.second)) {
                    return false;
                }
                moveView(orders.first, orders.second);
                return true;
            default:
                rememberSides();
                return true;
        }
    }

    // ---- counts and questions

    private int countHintsOf(int anchor, boolean shownOnly) {
        int many = 0;
        for (int hint = 0; hint < state.get(HINTS); hint++) {
            boolean counts = !shownOnly || showing.reasons.get(hint) == SHOWN;
            if (counts && state.hintValue(hint, ANCHOR) == anchor) {
                many++;
            }
        }
        return many;
    }

    private int countOpen() {
        int many = 0;
        for (int hint = 0; hint < state.get(HINTS); hint++) {
            if (state.isOpen(hint)) {
                many++;
            }
        }
        return many;
    }

    private int countRemembered() {
        int many = 0;
        for (int hint = 0; hint < state.get(HINTS); hint++) {
            if (state.hintValue(hint, REMEMBERED) != NO_SIDE) {
                many++;
            }
        }
        return many;
    }

    /** The areas add up: shown hints lie wholly in the view and have no point in common. */
    private int countCovered() {
        int points = 0;
        for (int hint = 0; hint < state.get(HINTS); hint++) {
            if (showing.reasons.get(hint) == SHOWN) {
                points += state.hintValue(hint, WIDTH) * state.hintValue(hint, HEIGHT);
            }
        }
        return points;
    }

    private int shownValue(int hint, int what) {
        int side = showing.sides.get(hint);
        place.find(state, hint, side, state.get(VIEW_WIDTH), state.get(VIEW_HEIGHT));
        switch (what) {
            case 9:
                return side;
            case 10:
                return place.x;
            case 11:
                return place.y;
            case 12:
                return place.arrow;
            case 13:
                return place.arrowGood ? 1 : 0;
            default:
                return place.shift;
        }
    }

    private boolean isInSightOnATry(int hint, int viewWidth, int viewHeight) {
        for (int i = 0; i < tries.many; i++) {
            place.find(state, hint, tries.sides.get(i), viewWidth, viewHeight);
            if (place.inSight) {
                return true;
            }
        }
        return false;
    }

    // ---- sides and spans

    /** Whether along is to the right on a side: the other sides are mirrored at the diagonal. */
    private static boolean isLevel(int side) {
        return side == ABOVE || side == BELOW;
    }

    /** Whether a side lies before the anchor: above it or left of it. */
    private static boolean isBefore(int side) {
        return side == ABOVE || side == LEFT;
    }

    /** The line on a side of an anchor, the gap away, from which a hint extends outward. */
    private static int edgeBy(State state, int anchor, int side) {
        boolean level = isLevel(side);
        int begin = state.anchorValue(anchor, level ? Y : X);
        int gap = state.setting(GAP);
        if (isBefore(side)) {
            return begin - gap;
        }
        return begin + state.anchorValue(anchor, level ? ANCHOR_HEIGHT : ANCHOR_WIDTH) + gap;
    }

    private static boolean spansMeet(int begin, int length, int otherBegin, int otherLength) {
        return begin < otherBegin + otherLength && otherBegin < begin + length;
    }

    private static boolean spanLiesIn(int begin, int length, int outerBegin, int outerLength) {
        return begin >= outerBegin && begin + length <= outerBegin + outerLength;
    }

    /** A row of numbers with the only indexes of the program: beyond its ends it answers 0 and takes nothing. */
    private static final class Row {
        private final int[] cells;

        Row(int length) {
            cells = new int[Math.max(0, length)];
        }

        int get(int index) {
            return index >= 0 && index < cells.length ? cells[index] : 0;
        }

        void put(int index, int value) {
            if (index >= 0 && index < cells.length) {
                cells[index] = value;
            }
        }
    }

    /** Everything that undo brings back: one row of numbers, so that the history copies it whole. */
    private static final class State {
        private final Row row = new Row(STATE_LENGTH);

        State() {
            row.put(VIEW_WIDTH, 200);
            row.put(VIEW_HEIGHT, 120);
            row.put(FIRST_SETTING + GAP, 4);
            row.put(FIRST_SETTING + ARROW, 6);
            row.put(FIRST_SETTING + MOST_SHOWN, 3);
            row.put(FIRST_SETTING + REMEMBERING, 1);
        }

        int get(int cell) {
            return row.get(cell);
        }

        void put(int cell, int value) {
            row.put(cell, value);
        }

        int setting(int what) {
            return row.get(FIRST_SETTING + what);
        }

        int anchorValue(int anchor, int what) {
            return row.get(FIRST_ANCHOR + anchor * ANCHOR_VALUES + what);
        }

        void putAnchorValue(int anchor, int what, int value) {
            row.put(FIRST_ANCHOR + anchor * ANCHOR_VALUES + what, value);
        }

        int hintValue(int hint, int what) {
            return row.get(FIRST_HINT + hint * HINT_VALUES + what);
        }

        void putHintValue(int hint, int what, int value) {
            row.put(FIRST_HINT + hint * HINT_VALUES + what, value);
        }

        boolean isOpen(int hint) {
            return hintValue(hint, OPENING) != NOT_OPENED;
        }

        boolean isAnchorInSight(int anchor) {
            return anchorMeets(anchor, get(VIEW_X), get(VIEW_Y), get(VIEW_WIDTH), get(VIEW_HEIGHT));
        }

        boolean anchorMeets(int anchor, int x, int y, int width, int height) {
            return spansMeet(anchorValue(anchor, X), anchorValue(anchor, ANCHOR_WIDTH), x, width)
                && spansMeet(anchorValue(anchor, Y), anchorValue(anchor, ANCHOR_HEIGHT), y, height);
        }

        /** How many open hints are gone through before an open hint. */
        int turn(int hint) {
            int before = 0;
            for (int other = 0; other < get(HINTS); other++) {
                if (isOpen(other) && goesBefore(other, hint)) {
                    before++;
                }
            }
            return before;
        }

        private boolean goesBefore(int hint, int other) {
            int priority = hintValue(hint, PRIORITY);
            int otherPriority = hintValue(other, PRIORITY);
            if (priority != otherPriority) {
                return priority > otherPriority;
            }
            return hintValue(hint, OPENING) < hintValue(other, OPENING);
        }

        void copyTo(Row rows, int begin) {
            for (int cell = 0; cell < STATE_LENGTH; cell++) {
                rows.put(begin + cell, row.get(cell));
            }
        }

        void copyFrom(Row rows, int begin) {
            for (int cell = 0; cell < STATE_LENGTH; cell++) {
                row.put(cell, rows.get(begin + cell));
            }
        }
    }

    /** The latest states, in a ring, so that none is moved when the oldest is dropped. */
    private static final class History {
        private final Row rows = new Row(MOST_STATES * STATE_LENGTH);
        private int oldest;
        private int states;

        void keep(State state) {
            if (states == MOST_STATES) {
                oldest = (oldest + 1) % MOST_STATES;
                states--;
            }
            state.copyTo(rows, beginOf(states));
            states++;
        }

        void restore(State state) {
            if (states > 0) {
                states--;
                state.copyFrom(rows, beginOf(states));
            }
        }

        private int beginOf(int age) {
            return (oldest + age) % MOST_STATES * STATE_LENGTH;
        }
    }

    /** The sides of one hint in the order in which they are tried, each once. */
    private static final class Tries {
        private final Row sides = new Row(SIDES);
        private int many;

        void list(State state, int hint) {
            many = 0;
            int remembered = state.hintValue(hint, REMEMBERED);
            if (state.setting(REMEMBERING) == 1 && remembered != NO_SIDE) {
                add(remembered);
            }
            int own = state.hintValue(hint, SIDE);
            int flip = state.hintValue(hint, FLIP);
            add(own);
            if (flip >= 1) {
                add((own + 2) % SIDES);
            }
            if (flip == 2) {
                add((own + 1) % SIDES);
                add((own + SIDES - 1) % SIDES);
            }
        }

        private void add(int side) {
            for (int i = 0; i < many; i++) {
                if (sides.get(i) == side) {
                    return;
                }
            }
            sides.put(many, side);
            many++;
        }
    }

    /** Where one hint lies on one side, without regard to other hints and anchors. */
    private static final class Place {
        private int x;
        private int y;
        private int shift;
        private int arrow;
        private boolean arrowGood;
        private boolean inSight;

        /** The size of the view is handed in because sizeFor asks for other views than the present one. */
        void find(State state, int hint, int side, int viewWidth, int viewHeight) {
            int width = state.hintValue(hint, WIDTH);
            int height = state.hintValue(hint, HEIGHT);
            boolean level = isLevel(side);
            int length = level ? width : height;
            int begin = beginAlong(state, hint, level);
            int middle = middleAlong(state, hint, level);
            int margin = state.setting(ARROW);
            shift = 0;
            if (state.hintValue(hint, SHIFT) == 1) {
                int viewBegin = state.get(level ? VIEW_X : VIEW_Y);
                shift = shiftInto(viewBegin, level ? viewWidth : viewHeight, begin, length, middle - begin, margin);
            }
            begin += shift;
            arrow = middle - begin;
            arrowGood = isGood(arrow, length, margin);
            int edge = edgeBy(state, state.hintValue(hint, ANCHOR), side);
            int across = isBefore(side) ? edge - (level ? height : width) : edge;
            x = level ? begin : across;
            y = level ? across : begin;
            inSight = spanLiesIn(x, width, state.get(VIEW_X), viewWidth)
                && spanLiesIn(y, height, state.get(VIEW_Y), viewHeight);
        }

        private static int beginAlong(State state, int hint, boolean level) {
            int anchor = state.hintValue(hint, ANCHOR);
            int begin = state.anchorValue(anchor, level ? X : Y);
            int spare = state.anchorValue(anchor, level ? ANCHOR_WIDTH : ANCHOR_HEIGHT)
                - state.hintValue(hint, level ? WIDTH : HEIGHT);
            switch (state.hintValue(hint, ALIGNMENT)) {
                case 0:
                    return begin;
                case 1:
                    return begin + Math.floorDiv(spare, 2);
                default:
                    return begin + spare;
            }
        }

        private static int middleAlong(State state, int hint, boolean level) {
            int anchor = state.hintValue(hint, ANCHOR);
            int length = state.anchorValue(anchor, level ? ANCHOR_WIDTH : ANCHOR_HEIGHT);
            return state.anchorValue(anchor, level ? X : Y) + Math.floorDiv(length, 2);
        }

        private static int shiftInto(int viewBegin, int viewLength, int begin, int length, int arrow, int margin) {
            if (length > viewLength) {
                return 0;
            }
            int forward = Math.max(0, viewBegin - begin);
            int back = Math.max(0, begin + length - viewBegin - viewLength);
            if (isGood(arrow, length, margin)) {
                // The arrow stays by the anchor: a shift forward brings it nearer to the hint's begin.
                forward = Math.min(forward, arrow - margin);
                back = Math.min(back, length - 1 - margin - arrow);
            }
            // One of them is 0, since the hint is no longer than the view.
            return forward - back;
        }

        private static boolean isGood(int arrow, int length, int margin) {
            return arrow >= margin && arrow <= length - 1 - margin;
        }
    }

    /** Which hints are shown and where, and why the others are not. */
    private static final class Showing {
        private final Row reasons = new Row(MOST_HINTS);
        private final Row sides = new Row(MOST_HINTS);
        private final Row xs = new Row(MOST_HINTS);
        private final Row ys = new Row(MOST_HINTS);
        private final Row order = new Row(MOST_HINTS);
        private final Tries tries = new Tries();
        private final Place place = new Place();
        private int shown;

        /** Returns how many hints are shown then. */
        int arrange(State state) {
            shown = 0;
            int open = orderOpenHints(state);
            for (int i = 0; i < open; i++) {
                int hint = order.get(i);
                int reason = tryToShow(state, hint);
                reasons.put(hint, reason);
                if (reason == SHOWN) {
                    shown++;
                }
            }
            return shown;
        }

        /** Takes every hint for closed first: a reason of earlier would make it stand in the way. */
        private int orderOpenHints(State state) {
            int open = 0;
            for (int hint = 0; hint < state.get(HINTS); hint++) {
                reasons.put(hint, CLOSED);
                if (state.isOpen(hint)) {
                    order.put(state.turn(hint), hint);
                    open++;
                }
            }
            return open;
        }

        private int tryToShow(State state, int hint) {
            if (!state.isAnchorInSight(state.hintValue(hint, ANCHOR))) {
                return ANCHOR_OUT_OF_SIGHT;
            }
            if (shown >= state.setting(MOST_SHOWN)) {
                return TOO_MANY;
            }
            int reason = OUT_OF_SIGHT;
            tries.list(state, hint);
            for (int i = 0; i < tries.many; i++) {
                place.find(state, hint, tries.sides.get(i), state.get(VIEW_WIDTH), state.get(VIEW_HEIGHT));
                if (place.inSight) {
                    if (isFree(state, hint)) {
                        sides.put(hint, tries.sides.get(i));
                        xs.put(hint, place.x);
                        ys.put(hint, place.y);
                        return SHOWN;
                    }
                    reason = NOT_FREE;
                }
            }
            return reason;
        }

        /** Whether a hint at the place found last keeps off all that it must keep off. */
        private boolean isFree(State state, int hint) {
            int width = state.hintValue(hint, WIDTH);
            int height = state.hintValue(hint, HEIGHT);
            if (shownThatMeets(state, place.x, place.y, width, height) >= 0) {
                return false;
            }
            if (state.setting(OFF_ANCHORS) == 0) {
                return true;
            }
            for (int anchor = 0; anchor < state.get(ANCHORS); anchor++) {
                if (state.anchorMeets(anchor, place.x, place.y, width, height)) {
                    return false;
                }
            }
            return true;
        }

        /** A shown hint that has a point in common with a rectangle, or -1. */
        int shownThatMeets(State state, int x, int y, int width, int height) {
            for (int hint = 0; hint < state.get(HINTS); hint++) {
                if (reasons.get(hint) == SHOWN
                    && spansMeet(xs.get(hint), state.hintValue(hint, WIDTH), x, width)
                    && spansMeet(ys.get(hint), state.hintValue(hint, HEIGHT), y, height)) {
                    return hint;
                }
            }
            return -1;
        }
    }

    /** The text of orders, and the order in it that was read last. */
    private static final class Orders {
        private final Row signs = new Row(MOST_SIGNS);
        private int length;
        private int begin;
        private int end;
        private int kind;
        private int first;
        private int second;
        private int number;

        void append(int sign) {
            signs.put(length, sign);
            length++;
        }

        /** The reason of the fault of the text, whose order is then the one read last. */
        int findFault(int hints) {
            int next = 0;
            for (int i = 0; i < MOST_SIGNS && next < length; i++) {
                if (!read(next)) {
                    return BAD_FORM;
                }
                if ((kind == 'o' || kind == 'c') && first >= hints) {
                    return NO_SUCH_HINT;
                }
                next = end;
            }
            return NO_FAULT;
        }

        /** Whether an order of the right form begins at a position; its end is behind its ";". */
        boolean read(int position) {
            begin = position;
            kind = signAt(position);
            end = position + 1;
            switch (kind) {
                case 'o':
                case 'c':
                    return readHint() && pass(';');
                case 'v':
                    return readMove() && pass(';');
                case 't':
                    return pass(';');
                default:
                    return false;
            }
        }

        private boolean readHint() {
            boolean good = readDigits(2);
            first = number;
            return good;
        }

        private boolean readMove() {
            if (!readSigned()) {
                return false;
            }
            first = number;
            if (!pass(',') || !readSigned()) {
                return false;
            }
            second = number;
            return true;
        }

        private boolean readSigned() {
            boolean negative = pass('-');
            boolean good = readDigits(3);
            if (negative) {
                number = -number;
            }
            return good;
        }

        /** Reads as many digits as there are, up to the most: a further one then stands where another sign is due. */
        private boolean readDigits(int most) {
            number = 0;
            int digits = 0;
            while (digits < most && isDigit(signAt(end))) {
                number = number * 10 + signAt(end) - '0';
                end++;
                digits++;
            }
            return digits > 0;
        }

        private static boolean isDigit(int sign) {
            return sign >= '0' && sign <= '9';
        }

        private boolean pass(char sign) {
            if (signAt(end) != sign) {
                return false;
            }
            end++;
            return true;
        }

        /** The sign at a position, or 0 where the text has none. */
        private int signAt(int position) {
            return position < length ? signs.get(position) : 0;
        }
    }
}

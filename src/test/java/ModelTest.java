import java.util.ArrayDeque;
import java.util.ArrayList;
import java.util.Collections;
import java.util.HashMap;
import java.util.HashSet;
import java.util.LinkedHashSet;
import java.util.List;
import java.util.Map;
import java.util.Set;
import java.util.TreeMap;
import java.util.regex.Matcher;
import java.util.regex.Pattern;

/**
 * Long runs of calls, each answered by HintPlacer and by a slow model of the document that is written in another way
 * (points instead of spans, shifts by single steps, lists that are copied whole, patterns for the orders).
 */
public final class ModelTest {
    static final int INVALID = -10001;
    static final int IMPOSSIBLE = -10002;
    static final int LIMIT = -10003;
    static final int NONE = -10004;

    private static final int RUNS = 600;
    private static final int CALLS = 512;

    public static void main(String[] args) {
        Map<String, Integer> answers = new TreeMap<>();
        for (int run = 0; run < RUNS; run++) {
            if (!sameAnswers(run, answers)) {
                System.exit(1);
            }
        }
        if (args.length > 0) {
            System.out.println(answers);
        }
        if (!sawAll(answers)) {
            System.exit(1);
        }
    }

    private static boolean sameAnswers(int run, Map<String, Integer> answers) {
        Dice dice = new Dice(run * 7919L + 17);
        HintPlacer program = new HintPlacer();
        Model model = new Model();
        List<String> told = new ArrayList<>();
        for (int i = 0; i < CALLS; i++) {
            int[] call = dice.call(i, run, model);
            int got = Calls.onProgram(program, call);
            int want = Calls.onModel(model, call);
            String text = Calls.tell(call);
            told.add(text + " = " + got);
            if (got != want) {
                System.out.println("run " + run + ", call " + i + ": " + text + " answered " + got + ", due is " + want);
                System.out.println(String.join("\n", told));
                return false;
            }
            boolean error = want <= INVALID && want >= NONE;
            String kind = Calls.NAMES[call[0]] + (error ? " " + want : " fine");
            answers.merge(kind, 1, Integer::sum);
            if (call[0] == Calls.HINT_OF && call[2] == 8 && want >= 0) {
                answers.merge("reason " + want, 1, Integer::sum);
            }
        }
        return true;
    }

    /** A run that never meets a case proves nothing of it. */
    private static boolean sawAll(Map<String, Integer> answers) {
        boolean all = true;
        for (String kind : Calls.DUE_KINDS) {
            if (answers.getOrDefault(kind, 0) < 5) {
                System.out.println("hardly any call answered so: " + kind);
                all = false;
            }
        }
        return all;
    }

    /** Numbers that look thrown, the same ones in every run of the test. */
    static final class Dice {
        private long seed;

        Dice(long seed) {
            this.seed = seed;
        }

        int below(int bound) {
            seed = seed * 6364136223846793005L + 1442695040888963407L;
            return (int) ((seed >>> 33) % bound);
        }

        int from(int low, int high) {
            return low + below(high - low + 1);
        }

        boolean oneIn(int many) {
            return below(many) == 0;
        }

        /** Mostly a value that fits, now and then one at the edge of the range or beyond it. */
        int value(int low, int high) {
            if (oneIn(60)) {
                int[] edges = {low, high, low - 1, high + 1, Integer.MIN_VALUE, Integer.MAX_VALUE};
                return edges[below(edges.length)];
            }
            return from(low, high);
        }

        /** Near the first view most of the time, where the hints meet. */
        int place(int reach, int near) {
            return oneIn(40) ? value(-reach, reach) : from(-near / 8, near);
        }

        int size() {
            return oneIn(12) ? value(1, 200) : from(1, 50);
        }

        private final ArrayDeque<int[]> ahead = new ArrayDeque<>();

        /** The model is looked at, so that most calls meet what is there. */
        int[] call(int i, int run, Model model) {
            if (i < 7) {
                return i == 0 && run % 2 == 0 ? new int[] {Calls.VIEW, from(180, 400), from(120, 400)} : anchor();
            }
            if (i < 16) {
                return hint(model);
            }
            if (!ahead.isEmpty()) {
                return ahead.removeFirst();
            }
            int kind = below(100);
            return kind < 55 ? question(model) : kind < 96 ? change(run, model) : text(model);
        }

        private int[] anchor() {
            return new int[] {Calls.ANCHOR, place(1000, 220), place(1000, 140), size(), size()};
        }

        private int[] hint(Model model) {
            return new int[] {Calls.HINT, anchorNumber(model), size(), size(), value(0, 3), value(0, 2)};
        }

        private int anchorNumber(Model model) {
            return oneIn(80) ? value(0, 9) : below(Math.max(1, model.anchors.size()));
        }

        private int hintNumber(Model model) {
            return oneIn(80) ? value(0, 11) : below(Math.max(1, model.hints.size()));
        }

        private int shownNumber(Model model) {
            List<Integer> shown = new ArrayList<>(model.shown().keySet());
            return shown.isEmpty() || oneIn(4) ? hintNumber(model) : shown.get(below(shown.size()));
        }

        private int[] question(Model model) {
            switch (below(11)) {
                case 0:
                    return new int[] {Calls.ANCHOR_OF, anchorNumber(model), value(0, 6)};
                case 1:
                case 2:
                    return new int[] {Calls.COUNT, oneIn(3) ? from(16, 17) : value(0, 17)};
                case 3:
                    return new int[] {Calls.ROOM, hintNumber(model), value(0, 3)};
                case 4:
                    return new int[] {Calls.IF_ON, hintNumber(model), value(0, 3), value(0, 4)};
                case 5:
                    return pointByHint(model);
                case 6:
                    return new int[] {Calls.SIZE_FOR, hintNumber(model), value(0, 1)};
                case 7:
                case 8:
                    return new int[] {Calls.HINT_OF, hintNumber(model), 8};
                default:
                    return new int[] {Calls.HINT_OF, shownNumber(model), oneIn(4) ? value(0, 8) : value(9, 16)};
            }
        }

        /** In a shown hint, on its edge, or just off it. */
        private int[] pointByHint(Model model) {
            Spot spot = model.shown().get(shownNumber(model));
            if (spot == null || oneIn(6)) {
                return new int[] {Calls.AT, value(-3000, 3000), value(-3000, 3000)};
            }
            int x = oneIn(2) ? from(spot.box.left - 1, spot.box.left) : from(spot.box.right, spot.box.right + 1);
            int y = oneIn(2) ? from(spot.box.top - 1, spot.box.top) : from(spot.box.bottom, spot.box.bottom + 1);
            return new int[] {Calls.AT, x, y};
        }

        private int[] change(int run, Model model) {
            switch (below(24)) {
                case 0:
                    return new int[] {Calls.VIEW, oneIn(4) ? value(20, 400) : from(150, 400),
                        oneIn(4) ? value(20, 400) : from(100, 400)};
                case 1:
                case 2:
                    return scroll(run, model);
                case 3:
                    return new int[] {Calls.MOVE_ANCHOR, anchorNumber(model), place(1000, 220), place(1000, 140)};
                case 4:
                case 5:
                    return setting();
                case 6:
                case 7:
                case 8:
                case 9:
                    return alteration(model);
                case 10:
                case 11:
                case 12:
                case 13:
                case 14:
                case 15:
                case 16:
                    return new int[] {Calls.OPEN, hintNumber(model)};
                case 17:
                    return new int[] {Calls.CLOSE, oneIn(2) ? shownNumber(model) : hintNumber(model)};
                case 18:
                case 19:
                case 20:
                    return new int[] {Calls.SETTLE};
                case 21:
                    return oneIn(4) ? anchor() : new int[] {Calls.CLOSE, shownNumber(model)};
                case 22:
                    return oneIn(4) ? hint(model) : alteration(model);
                default:
                    for (int i = below(8); i > 0; i--) {
                        ahead.add(new int[] {Calls.UNDO});
                    }
                    return new int[] {Calls.UNDO};
            }
        }

        /** Back to the anchors most of the time; some runs go far. */
        private int[] scroll(int run, Model model) {
            if (oneIn(run % 5 == 0 ? 2 : 30)) {
                return new int[] {Calls.SCROLL, value(-1000, 1000), oneIn(2) ? 0 : value(-1000, 1000)};
            }
            int dx = Math.max(-1000, Math.min(1000, from(-20, 40) - model.vx));
            int dy = Math.max(-1000, Math.min(1000, from(-20, 40) - model.vy));
            return new int[] {Calls.SCROLL, dx, dy};
        }

        private int[] setting() {
            int[] highest = {30, 20, 6, 1, 1};
            int what = value(0, 4);
            int high = what >= 0 && what <= 4 ? highest[what] : 1;
            return new int[] {Calls.SET, what, value(what == 2 ? 1 : 0, high)};
        }

        private int[] alteration(Model model) {
            int[] highest = {9, 200, 200, 3, 2, 2, 1, 9};
            int what = oneIn(2) ? from(5, 6) : value(0, 7);
            int high = what >= 0 && what <= 7 ? highest[what] : 1;
            int value = what == 0 ? anchorNumber(model) : what == 1 || what == 2 ? size() : value(0, high);
            return new int[] {Calls.ALTER, hintNumber(model), what, value};
        }

        private int[] text(Model model) {
            switch (below(8)) {
                case 0:
                    return new int[] {Calls.CLEAR_TEXT};
                case 1:
                case 2:
                    return new int[] {Calls.FAULT, value(0, 1)};
                case 3:
                    return new int[] {Calls.TYPE, value(32, 126)};
                case 4:
                    return new int[] {Calls.CARRY};
                default:
                    typeOrders(model);
                    return new int[] {Calls.CLEAR_TEXT};
            }
        }

        private void typeOrders(Model model) {
            int orders = oneIn(8) ? 20 : from(1, 5);
            StringBuilder text = new StringBuilder();
            for (int i = 0; i < orders; i++) {
                text.append(order(model));
            }
            if (oneIn(3)) {
                text.setCharAt(below(text.length()), "ocvt;,-0059 x".charAt(below(13)));
            }
            for (int i = 0; i < text.length(); i++) {
                ahead.add(new int[] {Calls.TYPE, text.charAt(i)});
            }
            ahead.add(new int[] {Calls.FAULT, 0});
            ahead.add(new int[] {Calls.FAULT, 1});
            ahead.add(new int[] {Calls.CARRY});
        }

        private String order(Model model) {
            int number = oneIn(60) ? below(120) : below(Math.max(1, model.hints.size()));
            String digits = oneIn(10) && number < 10 ? "0" + number : "" + number;
            switch (below(6)) {
                case 0:
                    return "c" + digits + ";";
                case 1:
                    return "v" + orderMove() + "," + orderMove() + ";";
                case 2:
                case 3:
                    return "t;";
                default:
                    return "o" + digits + ";";
            }
        }

        private String orderMove() {
            return oneIn(20) ? "" + from(-1000, 1000) : oneIn(20) ? "-0" : "" + from(-20, 20);
        }
    }

    /** A call as a row of numbers: which one, then its arguments. */
    static final class Calls {
        static final int VIEW = 0;
        static final int SCROLL = 1;
        static final int ANCHOR = 2;
        static final int MOVE_ANCHOR = 3;
        static final int ANCHOR_OF = 4;
        static final int SET = 5;
        static final int COUNT = 6;
        static final int HINT = 7;
        static final int ALTER = 8;
        static final int OPEN = 9;
        static final int CLOSE = 10;
        static final int SETTLE = 11;
        static final int HINT_OF = 12;
        static final int ROOM = 13;
        static final int IF_ON = 14;
        static final int AT = 15;
        static final int SIZE_FOR = 16;
        static final int UNDO = 17;
        static final int TYPE = 18;
        static final int CLEAR_TEXT = 19;
        static final int FAULT = 20;
        static final int CARRY = 21;
        static final String[] NAMES = {"view", "scroll", "anchor", "moveAnchor", "anchorOf", "set", "count", "hint", "alter",
            "open", "close", "settle", "hintOf", "room", "ifOn", "at", "sizeFor", "undo", "type", "clearText", "fault", "carry"};
        static final String[] DUE_KINDS = {"view fine", "view -10001", "scroll fine", "scroll -10001", "scroll -10002",
            "anchor fine", "anchor -10001", "anchor -10003", "moveAnchor fine", "moveAnchor -10001", "anchorOf fine",
            "anchorOf -10001", "set fine", "set -10001", "count fine", "count -10001", "hint fine", "hint -10001",
            "hint -10003", "alter fine", "alter -10001", "open fine", "open -10001", "open -10002", "close fine",
            "close -10001", "close -10002", "settle fine", "hintOf fine", "hintOf -10001", "hintOf -10004", "room fine",
            "room -10001", "ifOn fine", "ifOn -10001", "at fine", "at -10001", "at -10004", "sizeFor fine", "sizeFor -10001",
            "sizeFor -10004", "undo fine", "undo -10002", "type fine", "type -10001", "type -10003", "clearText fine",
            "fault fine", "fault -10001", "fault -10004", "carry fine", "carry -10002",
            "reason 0", "reason 1", "reason 2", "reason 3", "reason 4", "reason 5"};

        static String tell(int[] call) {
            List<String> arguments = new ArrayList<>();
            for (int i = 1; i < call.length; i++) {
                arguments.add("" + call[i]);
            }
            return NAMES[call[0]] + "(" + String.join(", ", arguments) + ")";
        }

        static int onProgram(HintPlacer x, int[] c) {
            switch (c[0]) {
                case VIEW: return x.view(c[1], c[2]);
                case SCROLL: return x.scroll(c[1], c[2]);
                case ANCHOR: return x.anchor(c[1], c[2], c[3], c[4]);
                case MOVE_ANCHOR: return x.moveAnchor(c[1], c[2], c[3]);
                case ANCHOR_OF: return x.anchorOf(c[1], c[2]);
                case SET: return x.set(c[1], c[2]);
                case COUNT: return x.count(c[1]);
                case HINT: return x.hint(c[1], c[2], c[3], c[4], c[5]);
                case ALTER: return x.alter(c[1], c[2], c[3]);
                case OPEN: return x.open(c[1]);
                case CLOSE: return x.close(c[1]);
                case SETTLE: return x.settle();
                case HINT_OF: return x.hintOf(c[1], c[2]);
                case ROOM: return x.room(c[1], c[2]);
                case IF_ON: return x.ifOn(c[1], c[2], c[3]);
                case AT: return x.at(c[1], c[2]);
                case SIZE_FOR: return x.sizeFor(c[1], c[2]);
                case UNDO: return x.undo();
                case TYPE: return x.type(c[1]);
                case CLEAR_TEXT: return x.clearText();
                case FAULT: return x.fault(c[1]);
                default: return x.carry();
            }
        }

        static int onModel(Model x, int[] c) {
            switch (c[0]) {
                case VIEW: return x.view(c[1], c[2]);
                case SCROLL: return x.scroll(c[1], c[2]);
                case ANCHOR: return x.anchor(c[1], c[2], c[3], c[4]);
                case MOVE_ANCHOR: return x.moveAnchor(c[1], c[2], c[3]);
                case ANCHOR_OF: return x.anchorOf(c[1], c[2]);
                case SET: return x.set(c[1], c[2]);
                case COUNT: return x.count(c[1]);
                case HINT: return x.hint(c[1], c[2], c[3], c[4], c[5]);
                case ALTER: return x.alter(c[1], c[2], c[3]);
                case OPEN: return x.open(c[1]);
                case CLOSE: return x.close(c[1]);
                case SETTLE: return x.settle();
                case HINT_OF: return x.hintOf(c[1], c[2]);
                case ROOM: return x.room(c[1], c[2]);
                case IF_ON: return x.ifOn(c[1], c[2], c[3]);
                case AT: return x.at(c[1], c[2]);
                case SIZE_FOR: return x.sizeFor(c[1], c[2]);
                case UNDO: return x.undo();
                case TYPE: return x.type(c[1]);
                case CLEAR_TEXT: return x.clearText();
                case FAULT: return x.fault(c[1]);
                default: return x.carry();
            }
        }
    }

    /** A rectangle of points. */
    static final class Box {
        final int left;
        final int top;
        final int right;
        final int bottom;

        /** The right and the bottom are the last points, not the ones behind them. */
        Box(int x, int y, int width, int height) {
            left = x;
            top = y;
            right = x + width - 1;
            bottom = y + height - 1;
        }

        boolean has(int x, int y) {
            return x >= left && x <= right && y >= top && y <= bottom;
        }

        boolean lacks(Box other) {
            return other.right < left || other.left > right || other.bottom < top || other.top > bottom;
        }

        boolean holds(Box other) {
            return has(other.left, other.top) && has(other.right, other.bottom);
        }
    }

    static final class Spot {
        Box box;
        int side;
        int shift;
        int arrow;
        boolean good;
    }

    static final class Model {
        int vx = 0;
        int vy = 0;
        int vw = 200;
        int vh = 120;
        List<int[]> anchors = new ArrayList<>();
        List<int[]> hints = new ArrayList<>();
        int[] settings = {4, 6, 3, 1, 0};
        /** The open hints in the order in which they were opened. */
        List<Integer> opened = new ArrayList<>();
        Map<Integer, Integer> remembered = new HashMap<>();
        ArrayDeque<Model> past = new ArrayDeque<>();
        String text = "";

        Model copy() {
            Model copy = new Model();
            copy.take(this);
            return copy;
        }

        void take(Model other) {
            vx = other.vx;
            vy = other.vy;
            vw = other.vw;
            vh = other.vh;
            anchors = copyRows(other.anchors);
            hints = copyRows(other.hints);
            settings = other.settings.clone();
            opened = new ArrayList<>(other.opened);
            remembered = new HashMap<>(other.remembered);
        }

        static List<int[]> copyRows(List<int[]> rows) {
            List<int[]> copies = new ArrayList<>();
            for (int[] row : rows) {
                copies.add(row.clone());
            }
            return copies;
        }

        void changes() {
            past.addLast(copy());
            while (past.size() > 5) {
                past.removeFirst();
            }
        }

        static boolean in(int value, int low, int high) {
            return low <= value && value <= high;
        }

        boolean noAnchor(int anchor) {
            return !in(anchor, 0, anchors.size() - 1);
        }

        boolean noHint(int hint) {
            return !in(hint, 0, hints.size() - 1);
        }

        Box viewBox(int width, int height) {
            return new Box(vx, vy, width, height);
        }

        static Box boxOf(int[] anchor) {
            return new Box(anchor[0], anchor[1], anchor[2], anchor[3]);
        }

        // what is shown

        static int half(int value) {
            return (int) Math.floor(value / 2.0);
        }

        boolean good(int arrow, int length) {
            return arrow >= settings[1] && arrow <= length - 1 - settings[1];
        }

        Spot spot(int hint, int side, int width, int height) {
            int[] h = hints.get(hint);
            int[] a = anchors.get(h[0]);
            int gap = settings[0];
            int[] lefts = {a[0], a[0] + half(a[2] - h[1]), a[0] + a[2] - h[1]};
            int[] tops = {a[1], a[1] + half(a[3] - h[2]), a[1] + a[3] - h[2]};
            int left = side == 1 ? a[0] + a[2] + gap : side == 3 ? a[0] - gap - h[1] : lefts[h[4]];
            int top = side == 0 ? a[1] - gap - h[2] : side == 2 ? a[1] + a[3] + gap : tops[h[4]];
            Spot spot = new Spot();
            spot.side = side;
            if (side == 0 || side == 2) {
                spot.arrow = a[0] + half(a[2]) - left;
                shift(spot, h, left, h[1], vx, width);
                left += spot.shift;
                spot.good = good(spot.arrow, h[1]);
            } else {
                spot.arrow = a[1] + half(a[3]) - top;
                shift(spot, h, top, h[2], vy, height);
                top += spot.shift;
                spot.good = good(spot.arrow, h[2]);
            }
            spot.box = new Box(left, top, h[1], h[2]);
            return spot;
        }

        /** Step by step, toward the view, as long as the arrow may follow. */
        void shift(Spot spot, int[] h, int begin, int length, int viewBegin, int viewLength) {
            if (h[6] == 0 || length > viewLength) {
                return;
            }
            boolean bound = good(spot.arrow, length);
            int at = begin;
            while (at < viewBegin && !(bound && !good(spot.arrow - 1, length))) {
                at++;
                spot.arrow--;
            }
            while (at + length - 1 > viewBegin + viewLength - 1 && !(bound && !good(spot.arrow + 1, length))) {
                at--;
                spot.arrow++;
            }
            spot.shift = at - begin;
        }

        Set<Integer> tried(int hint) {
            int[] h = hints.get(hint);
            Set<Integer> sides = new LinkedHashSet<>();
            if (settings[3] == 1 && remembered.containsKey(hint)) {
                sides.add(remembered.get(hint));
            }
            sides.add(h[3]);
            if (h[5] != 0) {
                sides.add(new int[] {2, 3, 0, 1}[h[3]]);
            }
            if (h[5] == 2) {
                sides.add(new int[] {1, 2, 3, 0}[h[3]]);
                sides.add(new int[] {3, 0, 1, 2}[h[3]]);
            }
            return sides;
        }

        List<Integer> turns() {
            List<Integer> turns = new ArrayList<>(opened);
            // The sort keeps the order of equals, so the order of opening stays.
            Collections.sort(turns, (one, other) -> hints.get(other)[7] - hints.get(one)[7]);
            return turns;
        }

        boolean anchorSeen(int anchor) {
            return !viewBox(vw, vh).lacks(boxOf(anchors.get(anchor)));
        }

        Map<Integer, Spot> shown(Map<Integer, Integer> reasons) {
            Map<Integer, Spot> shown = new TreeMap<>();
            for (int hint = 0; hint < hints.size(); hint++) {
                reasons.put(hint, 1);
            }
            for (int hint : turns()) {
                if (!anchorSeen(hints.get(hint)[0])) {
                    reasons.put(hint, 2);
                } else if (shown.size() == settings[2]) {
                    reasons.put(hint, 5);
                } else {
                    reasons.put(hint, reasonOf(hint, shown));
                }
            }
            return shown;
        }

        int reasonOf(int hint, Map<Integer, Spot> shown) {
            int reason = 3;
            for (int side : tried(hint)) {
                Spot spot = spot(hint, side, vw, vh);
                if (!viewBox(vw, vh).holds(spot.box)) {
                    continue;
                }
                boolean free = true;
                for (Spot other : shown.values()) {
                    free &= spot.box.lacks(other.box);
                }
                for (int[] anchor : anchors) {
                    free &= settings[4] == 0 || spot.box.lacks(boxOf(anchor));
                }
                if (free) {
                    shown.put(hint, spot);
                    return 0;
                }
                reason = 4;
            }
            return reason;
        }

        Map<Integer, Spot> shown() {
            return shown(new HashMap<>());
        }

        // the calls

        int view(int width, int height) {
            if (!in(width, 20, 400) || !in(height, 20, 400)) {
                return INVALID;
            }
            changes();
            vw = width;
            vh = height;
            return shown().size();
        }

        int scroll(int dx, int dy) {
            if (!in(dx, -1000, 1000) || !in(dy, -1000, 1000)) {
                return INVALID;
            }
            if (!in(vx + dx, -2000, 2000) || !in(vy + dy, -2000, 2000)) {
                return IMPOSSIBLE;
            }
            changes();
            vx += dx;
            vy += dy;
            return shown().size();
        }

        int anchor(int x, int y, int width, int height) {
            if (!in(x, -1000, 1000) || !in(y, -1000, 1000) || !in(width, 1, 200) || !in(height, 1, 200)) {
                return INVALID;
            }
            if (anchors.size() == 10) {
                return LIMIT;
            }
            changes();
            anchors.add(new int[] {x, y, width, height});
            return anchors.size() - 1;
        }

        int moveAnchor(int anchor, int x, int y) {
            if (noAnchor(anchor) || !in(x, -1000, 1000) || !in(y, -1000, 1000)) {
                return INVALID;
            }
            changes();
            anchors.get(anchor)[0] = x;
            anchors.get(anchor)[1] = y;
            return shown().size();
        }

        int anchorOf(int anchor, int what) {
            if (noAnchor(anchor) || !in(what, 0, 6)) {
                return INVALID;
            }
            if (what < 4) {
                return anchors.get(anchor)[what];
            }
            if (what == 4) {
                return anchorSeen(anchor) ? 1 : 0;
            }
            int many = 0;
            Map<Integer, Spot> shown = shown();
            for (int hint = 0; hint < hints.size(); hint++) {
                if (hints.get(hint)[0] == anchor && (what == 5 || shown.containsKey(hint))) {
                    many++;
                }
            }
            return many;
        }

        int set(int what, int value) {
            int[] high = {30, 20, 6, 1, 1};
            if (!in(what, 0, 4) || !in(value, what == 2 ? 1 : 0, high[what])) {
                return INVALID;
            }
            changes();
            int previous = settings[what];
            settings[what] = value;
            return previous;
        }

        int count(int what) {
            switch (what) {
                case 0: return vx;
                case 1: return vy;
                case 2: return vw;
                case 3: return vh;
                case 4: return anchors.size();
                case 5: return hints.size();
                case 6: return opened.size();
                case 7: return shown().size();
                case 8: return remembered.size();
                case 9: return past.size();
                case 10: return text.length();
                case 11: case 12: case 13: case 14: case 15: return settings[what - 11];
                case 16: return covered();
                case 17: return corners();
                default: return INVALID;
            }
        }

        int covered() {
            int points = 0;
            Map<Integer, Spot> shown = shown();
            for (int x = vx; x < vx + vw; x++) {
                for (int y = vy; y < vy + vh; y++) {
                    for (Spot spot : shown.values()) {
                        if (spot.box.has(x, y)) {
                            points++;
                            break;
                        }
                    }
                }
            }
            return points;
        }

        int corners() {
            Set<String> corners = new HashSet<>();
            for (Spot spot : shown().values()) {
                corners.add(spot.box.left + "," + spot.box.top);
            }
            return corners.size();
        }

        int hint(int anchor, int width, int height, int side, int alignment) {
            if (noAnchor(anchor) || !in(width, 1, 200) || !in(height, 1, 200) || !in(side, 0, 3) || !in(alignment, 0, 2)) {
                return INVALID;
            }
            if (hints.size() == 12) {
                return LIMIT;
            }
            changes();
            hints.add(new int[] {anchor, width, height, side, alignment, 0, 0, 0});
            return hints.size() - 1;
        }

        int alter(int hint, int what, int value) {
            int[] low = {0, 1, 1, 0, 0, 0, 0, 0};
            int[] high = {anchors.size() - 1, 200, 200, 3, 2, 2, 1, 9};
            if (noHint(hint) || !in(what, 0, 7) || !in(value, low[what], high[what])) {
                return INVALID;
            }
            changes();
            int previous = hints.get(hint)[what];
            hints.get(hint)[what] = value;
            if (what == 0 || what == 3) {
                remembered.remove(hint);
            }
            return previous;
        }

        int open(int hint) {
            if (noHint(hint)) {
                return INVALID;
            }
            if (opened.contains(hint)) {
                return IMPOSSIBLE;
            }
            changes();
            opened.add(hint);
            return hintOf(hint, 8);
        }

        int close(int hint) {
            if (noHint(hint)) {
                return INVALID;
            }
            if (!opened.contains(hint)) {
                return IMPOSSIBLE;
            }
            changes();
            shut(hint);
            return shown().size();
        }

        void shut(int hint) {
            opened.remove(Integer.valueOf(hint));
            remembered.remove(hint);
        }

        int settle() {
            changes();
            return settleNow();
        }

        int settleNow() {
            int others = 0;
            for (Map.Entry<Integer, Spot> entry : shown().entrySet()) {
                Integer before = remembered.put(entry.getKey(), entry.getValue().side);
                if (before == null || before != entry.getValue().side) {
                    others++;
                }
            }
            return others;
        }

        int hintOf(int hint, int what) {
            if (noHint(hint) || !in(what, 0, 16)) {
                return INVALID;
            }
            if (what < 8) {
                return hints.get(hint)[what];
            }
            if (what == 15) {
                return remembered.getOrDefault(hint, NONE);
            }
            if (what == 16) {
                return opened.contains(hint) ? turns().indexOf(hint) : NONE;
            }
            Map<Integer, Integer> reasons = new HashMap<>();
            Spot spot = shown(reasons).get(hint);
            if (what == 8) {
                return reasons.get(hint);
            }
            if (spot == null) {
                return NONE;
            }
            int[] values = {spot.side, spot.box.left, spot.box.top, spot.arrow, spot.good ? 1 : 0, spot.shift};
            return values[what - 9];
        }

        int room(int hint, int side) {
            if (noHint(hint) || !in(side, 0, 3)) {
                return INVALID;
            }
            int[] a = anchors.get(hints.get(hint)[0]);
            int gap = settings[0];
            int[] rooms = {a[1] - gap - vy, vx + vw - (a[0] + a[2] + gap), vy + vh - (a[1] + a[3] + gap), a[0] - gap - vx};
            return rooms[side];
        }

        int ifOn(int hint, int side, int what) {
            if (noHint(hint) || !in(side, 0, 3) || !in(what, 0, 4)) {
                return INVALID;
            }
            Spot spot = spot(hint, side, vw, vh);
            int[] values = {viewBox(vw, vh).holds(spot.box) ? 1 : 0, spot.box.left, spot.box.top, spot.shift, spot.arrow};
            return values[what];
        }

        int at(int x, int y) {
            if (!in(x, -3000, 3000) || !in(y, -3000, 3000)) {
                return INVALID;
            }
            for (Map.Entry<Integer, Spot> entry : shown().entrySet()) {
                if (entry.getValue().box.has(x, y)) {
                    return entry.getKey();
                }
            }
            return NONE;
        }

        int sizeFor(int hint, int what) {
            if (noHint(hint) || !in(what, 0, 1)) {
                return INVALID;
            }
            int least = NONE;
            for (int size = 400; size >= 20; size--) {
                int width = what == 0 ? size : vw;
                int height = what == 1 ? size : vh;
                for (int side : tried(hint)) {
                    if (viewBox(width, height).holds(spot(hint, side, width, height).box)) {
                        least = size;
                    }
                }
            }
            return least;
        }

        int undo() {
            if (past.isEmpty()) {
                return IMPOSSIBLE;
            }
            take(past.removeLast());
            return past.size();
        }

        int type(int character) {
            if (!in(character, 32, 126)) {
                return INVALID;
            }
            if (text.length() == 60) {
                return LIMIT;
            }
            text += (char) character;
            return text.length();
        }

        int clearText() {
            int length = text.length();
            text = "";
            return length;
        }

        static final Pattern ORDER = Pattern.compile("(?:([oc])([0-9]{1,2})|v(-?[0-9]{1,3}),(-?[0-9]{1,3})|t);");

        /** Position and reason of the fault, or null; the orders before it are put into a list. */
        int[] faultOf(List<Matcher> orders) {
            int at = 0;
            while (at < text.length()) {
                Matcher order = ORDER.matcher(text);
                if (!order.region(at, text.length()).lookingAt()) {
                    return new int[] {at, 1};
                }
                if (order.group(2) != null && noHint(Integer.parseInt(order.group(2)))) {
                    return new int[] {at, 2};
                }
                orders.add(order);
                at = order.end();
            }
            return null;
        }

        int fault(int what) {
            if (!in(what, 0, 1)) {
                return INVALID;
            }
            int[] fault = faultOf(new ArrayList<>());
            return fault == null ? NONE : fault[what];
        }

        int carry() {
            List<Matcher> orders = new ArrayList<>();
            if (faultOf(orders) != null) {
                return IMPOSSIBLE;
            }
            changes();
            int carried = 0;
            for (Matcher order : orders) {
                if (!carryOne(order)) {
                    break;
                }
                carried++;
            }
            return carried;
        }

        boolean carryOne(Matcher order) {
            if (order.group(3) != null) {
                int dx = Integer.parseInt(order.group(3));
                int dy = Integer.parseInt(order.group(4));
                if (!in(vx + dx, -2000, 2000) || !in(vy + dy, -2000, 2000)) {
                    return false;
                }
                vx += dx;
                vy += dy;
                return true;
            }
            if (order.group(1) == null) {
                settleNow();
                return true;
            }
            int hint = Integer.parseInt(order.group(2));
            boolean opens = order.group(1).equals("o");
            if (opened.contains(hint) == opens) {
                return false;
            }
            if (opens) {
                opened.add(hint);
            } else {
                shut(hint);
            }
            return true;
        }
    }
}

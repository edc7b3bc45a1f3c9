import java.io.IOException;
import java.nio.file.Files;
import java.nio.file.Path;
import java.util.ArrayList;
import java.util.HashMap;
import java.util.List;
import java.util.Map;

/**
 * Goes through the document sentence by sentence: each sentence that names a boundary case is quoted with its promise, and
 * tested with the value just within the boundary and the one just beyond it. In the end it looks into the document whether
 * every sentence was quoted. Runs in the project's folder.
 */
public final class BoundariesTest {
    private static final Path DOCUMENT = Path.of("../shared/DOC.md");

    private static final int INVALID = -10001;
    private static final int IMPOSSIBLE = -10002;
    private static final int LIMIT = -10003;
    private static final int NONE = -10004;
    private static final int LOW = Integer.MIN_VALUE;
    private static final int HIGH = Integer.MAX_VALUE;

    private static final int ABOVE = 0;
    private static final int RIGHT = 1;
    private static final int BELOW = 2;
    private static final int LEFT = 3;

    private static final int TERMS = 0;

    /** The words of the document that were tested, by promise; those of the terms under 0. */
    private static final Map<Integer, List<String>> quoted = new HashMap<>();
    private static String sentence = "";
    private static int wrong = 0;

    /** A call with one argument left open. */
    private interface Call {
        int on(HintPlacer p, int value);
    }

    private interface Scene {
        HintPlacer make();
    }

    public static void main(String[] args) throws IOException {
        atMost512Calls();
        numbersAndRectangles();
        viewAndAnchors();
        hintsAndSettings();
        placesOfHints();
        arrows();
        shifts();
        inSightOnASide();
        tries();
        turns();
        reasons();
        rememberedSides();
        textsOfOrders();
        faultsOfOrders();
        ordersCarriedOut();
        changes();
        historyOfFive();
        errorsByRank();
        errorsChangeNothing();
        numbersThatThereAreNot();
        promise1NewObject();
        promise2View();
        promise3Scroll();
        promise4Anchor();
        promise5MoveAnchor();
        promise6AnchorOf();
        promise7Set();
        promise8Count();
        promise9Hint();
        promise10Alter();
        promise11Open();
        promise12Close();
        promise13Settle();
        promise14HintOf();
        promise15Room();
        promise16IfOn();
        promise17At();
        promise18SizeFor();
        promise19Undo();
        promise20Type();
        promise21ClearText();
        promise22Fault();
        promise23Carry();
        everySentenceIsQuoted();
        if (wrong != 0) {
            System.out.println(wrong + " answers are not as due");
            System.exit(1);
        }
    }

    // ---- sentences and answers

    private static void promise(int number, String words) {
        quoted.computeIfAbsent(number, key -> new ArrayList<>()).add(words);
        sentence = "promise " + number + ", \"" + words + "\"";
    }

    /** A sentence of the terms, with the promises that rest on it. */
    private static void terms(String promises, String words) {
        quoted.computeIfAbsent(TERMS, key -> new ArrayList<>()).add(words);
        sentence = "terms (promises " + promises + "), \"" + words + "\"";
    }

    private static void due(int got, int want) {
        if (got != want) {
            wrong++;
            System.out.println("line " + callingLine() + ": " + got + ", due is " + want + ": " + sentence);
        }
    }

    private static void dueTrue(boolean holds) {
        due(holds ? 1 : 0, 1);
    }

    private static int callingLine() {
        for (StackTraceElement frame : new Throwable().getStackTrace()) {
            boolean helper = frame.getMethodName().matches("callingLine|due.*|range|write|anchorNumbers|hintNumbers|lambda.*");
            if (!helper) {
                return frame.getLineNumber();
            }
        }
        return 0;
    }

    /** The ends of a range are taken; what is one beyond them, or far beyond, is INVALID_ARGUMENT. */
    private static void range(int low, int high, Call call) {
        for (int value : new int[] {low, high}) {
            dueTrue(call.on(withHint(20, 10, RIGHT, 0), value) != INVALID);
        }
        for (int value : new int[] {low - 1, high + 1, LOW, HIGH}) {
            HintPlacer p = withHint(20, 10, RIGHT, 0);
            String before = tell(p);
            due(call.on(p, value), INVALID);
            dueTrue(tell(p).equals(before));
        }
    }

    private static void anchorNumbers(Call call) {
        for (int many : new int[] {0, 1, 10}) {
            for (int number : new int[] {many, -1, LOW, HIGH}) {
                due(call.on(withAnchors(many), number), INVALID);
            }
            if (many > 0) {
                dueTrue(call.on(withAnchors(many), many - 1) != INVALID);
                dueTrue(call.on(withAnchors(many), 0) != INVALID);
            }
        }
    }

    private static void hintNumbers(Call call) {
        for (int many : new int[] {0, 1, 12}) {
            for (int number : new int[] {many, -1, LOW, HIGH}) {
                due(call.on(withHints(many), number), INVALID);
            }
            if (many > 0) {
                dueTrue(call.on(withHints(many), many - 1) != INVALID);
                dueTrue(call.on(withHints(many), 0) != INVALID);
            }
        }
    }

    // ---- scenes

    /** A view of 200 by 120 with an anchor of 20 by 10 at (90, 50). */
    private static HintPlacer withAnchor() {
        HintPlacer p = new HintPlacer();
        due(p.anchor(90, 50, 20, 10), 0);
        return p;
    }

    /** Closed, by that anchor: its gap ends at 114 on the right, at 64 below, at 86 on the left, at 46 above. */
    private static HintPlacer withHint(int width, int height, int side, int alignment) {
        HintPlacer p = withAnchor();
        due(p.hint(0, width, height, side, alignment), 0);
        return p;
    }

    private static HintPlacer withAnchors(int many) {
        HintPlacer p = new HintPlacer();
        for (int anchor = 0; anchor < many; anchor++) {
            due(p.anchor(10 * anchor, 50, 5, 5), anchor);
        }
        if (many > 0) {
            due(p.hint(0, 5, 5, ABOVE, 0), 0);
        }
        return p;
    }

    private static HintPlacer withHints(int many) {
        HintPlacer p = withAnchor();
        for (int hint = 0; hint < many; hint++) {
            due(p.hint(0, 20, 10, hint % 4, 0), hint);
        }
        return p;
    }

    private static void write(HintPlacer p, String text) {
        p.clearText();
        for (int i = 0; i < text.length(); i++) {
            due(p.type(text.charAt(i)), i + 1);
        }
    }

    /** All that can be seen of two anchors and three hints, whether there are so many or not: 85 calls. */
    private static String tell(HintPlacer p) {
        StringBuilder all = new StringBuilder();
        for (int what = 0; what <= 17; what++) {
            all.append(' ').append(p.count(what));
        }
        for (int anchor = 0; anchor < 2; anchor++) {
            for (int what = 0; what <= 6; what++) {
                all.append(' ').append(p.anchorOf(anchor, what));
            }
        }
        for (int hint = 0; hint < 3; hint++) {
            for (int what = 0; what <= 16; what++) {
                all.append(' ').append(p.hintOf(hint, what));
            }
        }
        return all.append(' ').append(p.fault(0)).append(' ').append(p.fault(1)).toString();
    }

    /** What undo must bring back: all but the history and the text. */
    private static String tellState(HintPlacer p) {
        StringBuilder all = new StringBuilder();
        for (int what = 0; what <= 17; what++) {
            all.append(' ').append(what == 9 || what == 10 ? 0 : p.count(what));
        }
        for (int what = 0; what <= 6; what++) {
            all.append(' ').append(p.anchorOf(0, what)).append(' ').append(p.anchorOf(1, what));
        }
        for (int what = 0; what <= 16; what++) {
            all.append(' ').append(p.hintOf(0, what)).append(' ').append(p.hintOf(1, what)).append(' ').append(p.hintOf(2, what));
        }
        return all.toString();
    }

    // ---- what it is

    private static void atMost512Calls() {
        terms("1 to 23", "An object is used for at most 512 calls after it has been made");
        HintPlacer p = new HintPlacer();
        for (int call = 1; call <= 511; call++) {
            due(p.view(20 + call % 300, 100), 0);
        }
        due(p.undo(), 4);
        HintPlacer q = new HintPlacer();
        for (int call = 1; call <= 510; call++) {
            q.view(20 + call % 300, 100);
        }
        q.undo();
        due(q.count(2), 229);
        HintPlacer r = withHints(2);
        for (int call = 4; call <= 508; call += 2) {
            r.open(0);
            r.close(0);
        }
        r.open(1);
        due(r.open(0), 0);
        due(r.hintOf(0, 16), 1);
        HintPlacer s = new HintPlacer();
        for (int call = 1; call <= 510; call++) {
            due(s.type('t'), call <= 60 ? call : LIMIT);
        }
        due(s.fault(0), 0);
        due(s.count(10), 60);
    }

    // ---- terms: numbers, rectangles, view, anchors

    private static void numbersAndRectangles() {
        terms("9, 14, 16", "divisions are rounded down (toward negative infinity)");
        // The anchor is 20 by 10: (20 - w) / 2 and (10 - h) / 2.
        int[][] widths = {{17, 91}, {18, 91}, {19, 90}, {20, 90}, {21, 89}, {22, 89}, {23, 88}, {24, 88}};
        for (int[] one : widths) {
            HintPlacer p = withHint(one[0], 5, ABOVE, 1);
            due(p.ifOn(0, ABOVE, 1), one[1]);
            due(p.ifOn(0, BELOW, 1), one[1]);
        }
        int[][] heights = {{7, 51}, {8, 51}, {9, 50}, {10, 50}, {11, 49}, {12, 49}, {13, 48}};
        for (int[] one : heights) {
            HintPlacer p = withHint(5, one[0], RIGHT, 1);
            due(p.ifOn(0, RIGHT, 2), one[1]);
            due(p.ifOn(0, LEFT, 2), one[1]);
        }
        // Only the difference of the lengths is halved, not the place, which is negative here.
        HintPlacer far = new HintPlacer();
        far.anchor(-7, -9, 1, 1);
        far.hint(0, 2, 2, ABOVE, 1);
        due(far.ifOn(0, ABOVE, 1), -8);
        due(far.ifOn(0, RIGHT, 2), -10);

        terms("17", "A rectangle (x, y, w, h) covers the points from x to x + w - 1 and from y to y + h - 1");
        HintPlacer p = withHint(20, 10, RIGHT, 0);
        p.open(0);
        int[][] within = {{114, 50}, {133, 50}, {114, 59}, {133, 59}};
        for (int[] point : within) {
            due(p.at(point[0], point[1]), 0);
        }
        int[][] beyond = {{113, 50}, {134, 50}, {113, 59}, {134, 59}, {114, 49}, {133, 49}, {114, 60}, {133, 60}};
        for (int[] point : beyond) {
            due(p.at(point[0], point[1]), NONE);
        }
        p.alter(0, 1, 1);
        p.alter(0, 2, 1);
        due(p.at(114, 50), 0);
        due(p.at(115, 50), NONE);
        due(p.at(114, 51), NONE);
        due(p.at(113, 50), NONE);
        due(p.at(114, 49), NONE);

        terms("3, 16", "x grows to the right, y downward");
        HintPlacer q = withHint(20, 10, RIGHT, 0);
        dueTrue(q.ifOn(0, RIGHT, 1) > q.ifOn(0, LEFT, 1));
        dueTrue(q.ifOn(0, BELOW, 2) > q.ifOn(0, ABOVE, 2));
    }

    private static void viewAndAnchors() {
        terms("1, 3, 8", "its upper left point (vx, vy) (from -2000 to 2000 each, initially 0 and 0)");
        due(new HintPlacer().count(0), 0);
        due(new HintPlacer().count(1), 0);
        for (int way = -1; way <= 1; way += 2) {
            HintPlacer p = new HintPlacer();
            p.scroll(1000 * way, 1000 * way);
            p.scroll(999 * way, 999 * way);
            due(p.scroll(2 * way, 0), IMPOSSIBLE);
            due(p.scroll(0, 2 * way), IMPOSSIBLE);
            due(p.scroll(way, way), 0);
            due(p.count(0), 2000 * way);
            due(p.count(1), 2000 * way);
            due(p.scroll(way, 0), IMPOSSIBLE);
            due(p.scroll(0, way), IMPOSSIBLE);
            due(p.scroll(1000 * way, 0), IMPOSSIBLE);
            due(p.scroll(0, 1000 * way), IMPOSSIBLE);
            due(p.scroll(0, 0), 0);
        }

        terms("1, 2, 8", "a width and a height (20 to 400 each, initially 200 and 120)");
        due(new HintPlacer().count(2), 200);
        due(new HintPlacer().count(3), 120);
        int[][] sizes = {{20, 20, 0}, {400, 400, 0}, {19, 20, INVALID}, {20, 19, INVALID}, {401, 400, INVALID}, {400, 401, INVALID}};
        for (int[] size : sizes) {
            due(new HintPlacer().view(size[0], size[1]), size[2]);
        }

        terms("4", "There are at most 10 anchors, numbered from 0");
        HintPlacer p = new HintPlacer();
        for (int number = 0; number < 10; number++) {
            due(p.anchor(0, 0, 1, 1), number);
        }
        due(p.anchor(0, 0, 1, 1), LIMIT);
        due(p.undo(), 4);
        due(p.anchor(0, 0, 1, 1), 9);

        terms("4, 5", "an anchor is a rectangle with x and y from -1000 to 1000, and a width and a height from 1 to 200");
        HintPlacer q = new HintPlacer();
        due(q.anchor(-1000, 1000, 1, 200), 0);
        due(q.anchor(1000, -1000, 200, 1), 1);
        due(q.moveAnchor(0, 1000, -1000), 0);
        int[][] bad = {{-1001, 0, 1, 1}, {1001, 0, 1, 1}, {0, -1001, 1, 1}, {0, 1001, 1, 1}, {0, 0, 0, 1}, {0, 0, 201, 1},
            {0, 0, 1, 0}, {0, 0, 1, 201}};
        for (int[] one : bad) {
            due(q.anchor(one[0], one[1], one[2], one[3]), INVALID);
        }
        due(q.moveAnchor(0, 1001, 0), INVALID);
        due(q.moveAnchor(0, 0, -1001), INVALID);

        anchorsInSight();
    }

    private static void anchorsInSight() {
        terms("6, 11, 14", "An anchor is in sight if it and the view have a point in common.");
        // x, y, width, height, in sight; the view is (0, 0, 200, 120).
        int[][] anchors = {{-19, 50, 20, 10, 1}, {-20, 50, 20, 10, 0}, {199, 50, 20, 10, 1}, {200, 50, 20, 10, 0},
            {90, -9, 20, 10, 1}, {90, -10, 20, 10, 0}, {90, 119, 20, 10, 1}, {90, 120, 20, 10, 0}, {0, 0, 1, 1, 1},
            {-1, 0, 1, 1, 0}, {0, -1, 1, 1, 0}, {199, 119, 1, 1, 1}, {200, 119, 1, 1, 0}, {199, 120, 1, 1, 0},
            {-19, -9, 20, 10, 1}, {-20, -10, 20, 10, 0}, {200, 120, 20, 10, 0}};
        for (int[] one : anchors) {
            HintPlacer p = new HintPlacer();
            p.anchor(one[0], one[1], one[2], one[3]);
            due(p.anchorOf(0, 4), one[4]);
            p.hint(0, 200, 120, ABOVE, 0);
            due(p.open(0), one[4] == 1 ? 3 : 2);
        }
        // Larger than the view on every side: no edge of it lies in the view.
        HintPlacer p = new HintPlacer();
        p.anchor(-50, -50, 200, 200);
        p.view(20, 20);
        due(p.anchorOf(0, 4), 1);
        p.scroll(149, 149);
        due(p.anchorOf(0, 4), 1);
        p.scroll(1, 0);
        due(p.anchorOf(0, 4), 0);
        p.scroll(-1, 1);
        due(p.anchorOf(0, 4), 0);
        p.scroll(-218, -219);
        due(p.anchorOf(0, 4), 1);
        p.scroll(-1, 0);
        due(p.anchorOf(0, 4), 0);
        p.scroll(1, 0);
        due(p.anchorOf(0, 4), 1);
        p.scroll(0, -1);
        due(p.anchorOf(0, 4), 0);
    }

    // ---- terms: hints

    private static void hintsAndSettings() {
        terms("9", "There are at most 12 hints, numbered from 0 in the order in which they were added.");
        HintPlacer p = withAnchor();
        for (int number = 0; number < 12; number++) {
            due(p.hint(0, number + 1, 1, 0, 0), number);
        }
        due(p.hint(0, 1, 1, 0, 0), LIMIT);
        for (int number = 0; number < 12; number++) {
            due(p.hintOf(number, 1), number + 1);
        }
        due(p.undo(), 4);
        due(p.hint(0, 99, 1, 0, 0), 11);
        due(p.hintOf(11, 1), 99);

        terms("9, 10, 14", "A hint has an anchor, a width w and a height h (1 to 200 each), a side (0 above, 1 right, 2 below, 3 left),"
            + " an alignment (0 to 2), a flip (0 none, 1 opposite, 2 all), a shift (0 or 1), and a priority (0 to 9).");
        int[] low = {0, 1, 1, 0, 0, 0, 0, 0};
        int[] high = {0, 200, 200, 3, 2, 2, 1, 9};
        for (int what = 0; what < 8; what++) {
            HintPlacer q = withHint(20, 10, RIGHT, 1);
            due(q.alter(0, what, low[what] - 1), INVALID);
            due(q.alter(0, what, high[what] + 1), INVALID);
            dueTrue(q.alter(0, what, low[what]) != INVALID);
            due(q.alter(0, what, high[what]), low[what]);
            due(q.hintOf(0, what), high[what]);
        }

        terms("9, 11, 12, 14", "It is closed (initially) or open.");
        HintPlacer q = withHint(20, 10, RIGHT, 0);
        due(q.hintOf(0, 8), 1);
        due(q.close(0), IMPOSSIBLE);
        due(q.open(0), 0);
        due(q.open(0), IMPOSSIBLE);
        due(q.close(0), 0);
        due(q.close(0), IMPOSSIBLE);
        due(q.open(0), 0);

        terms("1, 7, 8", "The settings are (in parentheses: range; first value): 0 the gap (0 to 30; 4), 1 the arrow (0 to 20; 6),"
            + " 2 the most hints that are shown (1 to 6; 3), 3 whether sides are remembered (0 or 1; 1),"
            + " 4 whether hints must keep off anchors (0 or 1; 0).");
        int[] first = {4, 6, 3, 1, 0};
        int[] least = {0, 0, 1, 0, 0};
        int[] most = {30, 20, 6, 1, 1};
        for (int what = 0; what < 5; what++) {
            HintPlacer r = new HintPlacer();
            due(r.count(11 + what), first[what]);
            due(r.set(what, least[what] - 1), INVALID);
            due(r.set(what, most[what] + 1), INVALID);
            due(r.set(what, least[what]), first[what]);
            due(r.set(what, most[what]), least[what]);
            due(r.count(11 + what), most[what]);
        }
    }

    private static void placesOfHints() {
        String above = "A hint on the side above, of an anchor (x, y, aw, ah), is placed with its left edge at x with the alignment 0,"
            + " x + (aw - w) / 2 with 1, and x + aw - w with 2, and its top at y - gap - h; below likewise, its top at y + ah + gap.";
        String right = "On the right its top is at y, y + (ah - h) / 2, or y + ah - h by the alignment, and its left edge at x + aw + gap;"
            + " on the left likewise, its left edge at x - gap - w.";
        int[] gaps = {0, 1, 29, 30};
        int[][] sizes = {{1, 1}, {20, 10}, {21, 11}, {19, 9}, {200, 200}};
        for (int gap : gaps) {
            for (int[] size : sizes) {
                int w = size[0];
                int h = size[1];
                int[] lefts = {90, 90 + Math.floorDiv(20 - w, 2), 110 - w};
                int[] tops = {50, 50 + Math.floorDiv(10 - h, 2), 60 - h};
                for (int alignment = 0; alignment < 3; alignment++) {
                    HintPlacer p = withHint(w, h, ABOVE, alignment);
                    p.set(0, gap);
                    terms("14, 16", above);
                    due(p.ifOn(0, ABOVE, 1), lefts[alignment]);
                    due(p.ifOn(0, ABOVE, 2), 50 - gap - h);
                    due(p.ifOn(0, BELOW, 1), lefts[alignment]);
                    due(p.ifOn(0, BELOW, 2), 60 + gap);
                    terms("14, 16", right);
                    due(p.ifOn(0, RIGHT, 1), 110 + gap);
                    due(p.ifOn(0, RIGHT, 2), tops[alignment]);
                    due(p.ifOn(0, LEFT, 1), 90 - gap - w);
                    due(p.ifOn(0, LEFT, 2), tops[alignment]);
                }
            }
        }
    }

    private static void arrows() {
        terms("14, 16", "The middle of the anchor along is x + aw / 2 (above, below) or y + ah / 2.");
        // The hint is 5 by 5 and begins where the anchor begins, so that the place of the arrow is aw / 2 or ah / 2.
        int[][] sizes = {{1, 0}, {2, 1}, {3, 1}, {4, 2}, {5, 2}, {199, 99}, {200, 100}};
        for (int[] size : sizes) {
            for (int begin : new int[] {-7, 0, 7}) {
                HintPlacer p = new HintPlacer();
                p.anchor(begin, begin, size[0], 1);
                p.anchor(begin, begin, 1, size[0]);
                p.hint(0, 5, 5, ABOVE, 0);
                p.hint(1, 5, 5, RIGHT, 0);
                due(p.ifOn(0, ABOVE, 4), size[1]);
                due(p.ifOn(0, BELOW, 4), size[1]);
                due(p.ifOn(0, RIGHT, 4), 0);
                due(p.ifOn(1, RIGHT, 4), size[1]);
                due(p.ifOn(1, LEFT, 4), size[1]);
                due(p.ifOn(1, ABOVE, 4), 0);
            }
        }

        terms("14, 16", "The place of the arrow, counted along from the begin of the hint, is the difference of the middle of the"
            + " anchor and the begin of the hint (its left edge, or its top).");
        // With the alignment 2 it is the length less 10 (the anchor is 20 wide), or less 5 (it is 10 high).
        int[] lengths = {1, 9, 10, 11, 200};
        for (int length : lengths) {
            HintPlacer p = withHint(length, length, ABOVE, 2);
            due(p.ifOn(0, ABOVE, 4), length - 10);
            due(p.ifOn(0, BELOW, 4), length - 10);
            due(p.ifOn(0, RIGHT, 4), length - 5);
            due(p.ifOn(0, LEFT, 4), length - 5);
        }

        terms("14", "The length of a hint on a side is its width above and below, its height on the right and on the left;"
            + " along is to the right above and below, downward on the right and on the left.");
        // The arrow 6 needs a length of 17 above and below (its place is 10), of 12 on the right and left (its place is 5).
        for (int side = 0; side < 4; side++) {
            boolean level = side == ABOVE || side == BELOW;
            HintPlacer p = withHint(level ? 17 : 40, level ? 40 : 12, side, 0);
            p.set(1, level ? 6 : 5);
            p.open(0);
            due(p.hintOf(0, 13), 1);
            p.alter(0, level ? 1 : 2, level ? 16 : 10);
            due(p.hintOf(0, 13), 0);
            due(p.hintOf(0, 8), 0);
        }

        terms("7, 14", "The arrow is good if its place is at least the setting arrow, and at most the length minus 1 minus the"
            + " setting arrow.");
        arrowsAtTheirEnds();
    }

    private static void arrowsAtTheirEnds() {
        // Side, alignment, width, height, place of the arrow, the greatest setting with which it is good (-1: with none).
        int[][] hints = {{ABOVE, 0, 60, 5, 10, 10}, {BELOW, 0, 60, 5, 10, 10}, {ABOVE, 2, 60, 5, 50, 9}, {BELOW, 2, 60, 5, 50, 9},
            {RIGHT, 0, 5, 40, 5, 5}, {LEFT, 0, 5, 40, 5, 5}, {RIGHT, 2, 5, 40, 35, 4}, {LEFT, 2, 5, 40, 35, 4},
            {ABOVE, 1, 13, 5, 7, 5}, {ABOVE, 1, 12, 5, 6, 5}, {ABOVE, 0, 11, 5, 10, 0}, {ABOVE, 0, 10, 5, 10, -1},
            {ABOVE, 2, 10, 5, 0, 0}, {ABOVE, 2, 9, 5, -1, -1}, {ABOVE, 1, 1, 5, 1, -1}, {ABOVE, 1, 2, 5, 1, 0},
            {ABOVE, 1, 41, 5, 21, 19}, {ABOVE, 1, 42, 5, 21, 20}};
        for (int[] one : hints) {
            HintPlacer p = withHint(one[2], one[3], one[0], one[1]);
            due(p.open(0), 0);
            due(p.hintOf(0, 12), one[4]);
            for (int arrow = 0; arrow <= 20; arrow++) {
                p.set(1, arrow);
                due(p.hintOf(0, 13), arrow <= one[5] ? 1 : 0);
            }
        }
    }

    private static void shifts() {
        terms("14, 16", "If a hint with the shift 1 lies beyond the view along, it is shifted along by the least amount, toward the view,"
            + " with which it lies in the view along; but if its arrow is good before, only as far as the arrow stays good"
            + " (if it is not good before, the shift is not limited).");
        // 60 wide: with the alignment 0 from 90 to 149 (arrow 10), with 1 from 70 to 129 (30), with 2 from 50 to 109 (50).
        // Alignment, setting arrow, vx, width of the view, shift, in sight.
        int[][] level = {{1, 6, 70, 60, 0, 1}, {1, 6, 71, 129, 1, 1}, {1, 6, 94, 106, 24, 1}, {1, 6, 95, 105, 24, 0},
            {1, 6, 0, 130, 0, 1}, {1, 6, 0, 129, -1, 1}, {1, 6, 0, 107, -23, 1}, {1, 6, 0, 106, -23, 0},
            {0, 10, 90, 60, 0, 1}, {0, 10, 91, 60, 0, 0}, {0, 11, 91, 60, 1, 1}, {0, 11, 191, 60, 101, 1},
            {0, 10, 0, 150, 0, 1}, {0, 10, 0, 149, -1, 1}, {0, 10, 0, 111, -39, 1}, {0, 10, 0, 110, -39, 0},
            {0, 11, 0, 110, -40, 1}, {0, 11, 0, 60, -90, 1},
            {2, 9, 0, 110, 0, 1}, {2, 9, 0, 109, 0, 0}, {2, 10, 0, 109, -1, 1}, {2, 10, 0, 60, -50, 1},
            {2, 9, 51, 100, 1, 1}, {2, 9, 91, 100, 41, 1}, {2, 9, 92, 100, 41, 0}, {2, 10, 92, 100, 42, 1},
            {1, 0, 100, 60, 30, 1}, {1, 0, 101, 60, 30, 0}, {1, 0, 0, 101, -29, 1}, {1, 0, 0, 100, -29, 0}};
        for (int[] one : level) {
            for (int side = ABOVE; side <= BELOW; side += 2) {
                dueShift(withHint(60, 10, side, one[0]), side, one);
            }
        }
        // 40 high: with the alignment 0 from 50 to 89 (arrow 5), with 1 from 35 to 74 (20), with 2 from 20 to 59 (35).
        int[][] upright = {{1, 6, 35, 40, 0, 1}, {1, 6, 36, 84, 1, 1}, {1, 6, 49, 71, 14, 1}, {1, 6, 50, 70, 14, 0},
            {1, 6, 0, 75, 0, 1}, {1, 6, 0, 74, -1, 1}, {1, 6, 0, 62, -13, 1}, {1, 6, 0, 61, -13, 0},
            {0, 5, 51, 60, 0, 0}, {0, 6, 51, 60, 1, 1}, {2, 4, 0, 59, 0, 0}, {2, 5, 0, 59, -1, 1}};
        for (int[] one : upright) {
            for (int side = RIGHT; side <= LEFT; side += 2) {
                dueShift(withHint(10, 40, side, one[0]), side, one);
            }
        }
        shiftsOnlyAlong();
        longHintsAreNotShifted();
    }

    /** Without the shift the hint stays; with it, its begin and its arrow go along. */
    private static void dueShift(HintPlacer p, int side, int[] one) {
        boolean level = side == ABOVE || side == BELOW;
        int place = level ? 1 : 2;
        p.set(1, one[1]);
        p.view(level ? one[3] : 200, level ? 120 : one[3]);
        p.scroll(level ? one[2] : 0, level ? 0 : one[2]);
        int begin = p.ifOn(0, side, place);
        int arrow = p.ifOn(0, side, 4);
        due(p.ifOn(0, side, 3), 0);
        due(p.ifOn(0, side, 0), one[4] == 0 ? one[5] : 0);
        p.alter(0, 6, 1);
        due(p.ifOn(0, side, 3), one[4]);
        due(p.ifOn(0, side, 0), one[5]);
        due(p.ifOn(0, side, place), begin + one[4]);
        due(p.ifOn(0, side, 4), arrow - one[4]);
        if (p.open(0) == 0) {
            due(p.hintOf(0, 14), one[4]);
            due(p.hintOf(0, 9 + place), begin + one[4]);
            due(p.hintOf(0, 12), arrow - one[4]);
        }
        p.alter(0, 6, 0);
        due(p.ifOn(0, side, 3), 0);
        due(p.ifOn(0, side, place), begin);
    }

    private static void shiftsOnlyAlong() {
        // 86 is the room on the left and on the right, 46 that above, 56 that below.
        int[][] hints = {{ABOVE, 20, 46, 1}, {ABOVE, 20, 47, 0}, {BELOW, 20, 56, 1}, {BELOW, 20, 57, 0},
            {LEFT, 86, 10, 1}, {LEFT, 87, 10, 0}, {RIGHT, 86, 10, 1}, {RIGHT, 87, 10, 0}};
        for (int[] one : hints) {
            HintPlacer p = withHint(one[1], one[2], one[0], 0);
            p.alter(0, 6, 1);
            due(p.ifOn(0, one[0], 3), 0);
            due(p.ifOn(0, one[0], 0), one[3]);
        }
    }

    private static void longHintsAreNotShifted() {
        terms("14, 16, 18", "A hint that is longer than the view along is not shifted.");
        HintPlacer p = withHint(60, 10, ABOVE, 0);
        p.alter(0, 6, 1);
        p.set(1, 11);
        p.view(60, 120);
        due(p.ifOn(0, ABOVE, 3), -90);
        due(p.ifOn(0, BELOW, 0), 1);
        p.view(59, 120);
        due(p.ifOn(0, ABOVE, 3), 0);
        due(p.ifOn(0, ABOVE, 1), 90);
        due(p.ifOn(0, BELOW, 0), 0);
        p.scroll(95, 0);
        due(p.ifOn(0, ABOVE, 3), 0);
        p.view(60, 120);
        due(p.ifOn(0, ABOVE, 3), 5);
        HintPlacer q = withHint(10, 40, LEFT, 0);
        q.alter(0, 6, 1);
        q.view(200, 40);
        due(q.ifOn(0, LEFT, 3), -50);
        q.view(200, 39);
        due(q.ifOn(0, LEFT, 3), 0);
        due(q.ifOn(0, LEFT, 2), 50);
        due(q.ifOn(0, LEFT, 0), 0);
    }

    private static void inSightOnASide() {
        terms("11, 14, 16", "A hint is in sight on a side if it lies wholly in the view (behind the shift).");
        // Side, alignment, width, height: these just lie in the view; one wider, or one higher, they do not.
        int[][] wide = {{ABOVE, 0, 110, 5}, {ABOVE, 2, 110, 5}, {BELOW, 0, 110, 5}, {BELOW, 2, 110, 5}, {RIGHT, 0, 86, 5},
            {LEFT, 0, 86, 5}, {RIGHT, 0, 86, 70}, {LEFT, 2, 86, 60}, {ABOVE, 0, 110, 46}, {BELOW, 2, 110, 56}};
        int[][] high = {{ABOVE, 0, 5, 46}, {BELOW, 0, 5, 56}, {RIGHT, 0, 5, 70}, {RIGHT, 2, 5, 60}, {LEFT, 0, 5, 70},
            {LEFT, 2, 5, 60}, {RIGHT, 0, 86, 70}, {LEFT, 2, 86, 60}, {ABOVE, 0, 110, 46}, {BELOW, 2, 110, 56}};
        for (int[] one : wide) {
            dueJustInSight(withHint(one[2], one[3], one[0], one[1]), one[0], 1, one[2] + 1);
        }
        for (int[] one : high) {
            dueJustInSight(withHint(one[2], one[3], one[0], one[1]), one[0], 2, one[3] + 1);
        }
        // The same with the view elsewhere: the hint is from 90 to 109 and from 36 to 45.
        HintPlacer p = withHint(20, 10, ABOVE, 0);
        p.view(20, 20);
        int[][] views = {{90, 36, 1}, {91, 36, 0}, {90, 37, 0}, {89, 36, 0}, {90, 26, 1}, {90, 25, 0}};
        for (int[] view : views) {
            p.scroll(view[0] - p.count(0), view[1] - p.count(1));
            due(p.ifOn(0, ABOVE, 0), view[2]);
        }
    }

    private static void dueJustInSight(HintPlacer p, int side, int what, int tooMuch) {
        due(p.ifOn(0, side, 0), 1);
        due(p.open(0), 0);
        p.alter(0, what, tooMuch);
        due(p.ifOn(0, side, 0), 0);
        due(p.hintOf(0, 8), 3);
    }

    // ---- terms: showing

    private static void tries() {
        terms("11, 14", "The sides of a hint are tried in this order: the remembered one, if the setting 3 is 1 and there is one;"
            + " its own; with the flip 1 or 2 the opposite one; with the flip 2 the one that comes clockwise behind its own"
            + " (0, 1, 2, 3, 0), then the one that comes before it.");
        int[][] all = {{0, 2, 1, 3}, {1, 3, 2, 0}, {2, 0, 3, 1}, {3, 1, 0, 2}};
        for (int own = 0; own < 4; own++) {
            int[] order = all[own];
            dueTries(own, 0, -1, 1, new int[] {order[0]});
            dueTries(own, 1, -1, 1, new int[] {order[0], order[1]});
            dueTries(own, 2, -1, 1, order);
            dueTries(own, 2, order[3], 0, order);
            dueTries(own, 0, order[2], 0, new int[] {order[0]});
        }

        terms("11, 13, 14", "A side that was tried already is not tried again; a remembered side is tried whatever the flip is.");
        for (int own = 0; own < 4; own++) {
            int[] order = all[own];
            for (int remembered = 0; remembered < 4; remembered++) {
                dueTries(own, 0, remembered, 1, first(remembered, new int[] {order[0]}));
                dueTries(own, 1, remembered, 1, first(remembered, new int[] {order[0], order[1]}));
                dueTries(own, 2, remembered, 1, first(remembered, order));
            }
        }
    }

    private static int[] first(int side, int[] order) {
        List<Integer> sides = new ArrayList<>();
        sides.add(side);
        for (int other : order) {
            if (other != side) {
                sides.add(other);
            }
        }
        return sides.stream().mapToInt(Integer::intValue).toArray();
    }

    /** Hints of a higher priority take the sides one after the other: the hint goes on to the next one of its order. */
    private static void dueTries(int own, int flip, int remembered, int remembering, int[] order) {
        HintPlacer p = withHint(20, 10, own, 0);
        p.alter(0, 5, 2);
        p.set(2, 6);
        for (int side = 0; side < 4; side++) {
            p.hint(0, 20, 10, side, 0);
            p.alter(1 + side, 7, 9);
        }
        p.open(0);
        if (remembered >= 0) {
            rememberSide(p, remembered);
        }
        p.set(3, remembering);
        p.alter(0, 5, flip);
        for (int side : order) {
            due(p.hintOf(0, 8), 0);
            due(p.hintOf(0, 9), side);
            due(p.open(1 + side), 0);
        }
        due(p.hintOf(0, 8), 4);
        due(p.hintOf(0, 9), NONE);
    }

    private static void rememberSide(HintPlacer p, int remembered) {
        for (int side = 0; side < 4; side++) {
            if (side != remembered) {
                p.open(1 + side);
            }
        }
        due(p.settle(), 4);
        due(p.hintOf(0, 15), remembered);
        for (int side = 0; side < 4; side++) {
            if (side != remembered) {
                p.close(1 + side);
            }
        }
    }

    private static void turns() {
        terms("11, 14", "The hints that are open are gone through by descending priorities, those with equal priorities by the order"
            + " in which they were opened.");
        HintPlacer p = withHints(3);
        for (int hint = 0; hint < 3; hint++) {
            p.alter(hint, 3, RIGHT);
        }
        due(p.open(2), 0);
        due(p.open(0), 4);
        due(p.open(1), 4);
        dueTurns(p, 1, 2, 0);
        p.alter(1, 7, 1);
        dueTurns(p, 2, 0, 1);
        due(p.hintOf(1, 8), 0);
        due(p.hintOf(2, 8), 4);
        p.alter(0, 7, 1);
        dueTurns(p, 0, 1, 2);
        p.alter(2, 7, 9);
        dueTurns(p, 1, 2, 0);
        p.alter(0, 7, 9);
        p.alter(1, 7, 9);
        dueTurns(p, 1, 2, 0);
        p.close(2);
        dueTurns(p, 0, 1, NONE);
        p.open(2);
        dueTurns(p, 0, 1, 2);
        // Twelve open hints, opened from the last one to the first one.
        HintPlacer q = withHints(12);
        for (int hint = 11; hint >= 0; hint--) {
            q.open(hint);
        }
        for (int hint = 0; hint < 12; hint++) {
            due(q.hintOf(hint, 16), 11 - hint);
        }
    }

    private static void dueTurns(HintPlacer p, int... turns) {
        for (int hint = 0; hint < turns.length; hint++) {
            due(p.hintOf(hint, 16), turns[hint]);
        }
    }

    private static void reasons() {
        terms("11, 14", "A hint whose anchor is not in sight waits for the reason 2.");
        // The hint on the left lies in the view though its anchor does not.
        HintPlacer p = withHint(20, 10, LEFT, 0);
        p.moveAnchor(0, 199, 50);
        due(p.open(0), 0);
        p.moveAnchor(0, 200, 50);
        due(p.hintOf(0, 8), 2);
        due(p.ifOn(0, LEFT, 0), 1);

        terms("7, 11, 14", "Otherwise, if as many hints are shown as the setting 2 allows, it waits for the reason 5.");
        for (int most = 1; most <= 6; most++) {
            dueAtMostShown(most);
        }
        reasonsByRank();
        othersInTheWay();

        terms("11, 14", "A closed hint has the reason 1, a shown one 0.");
        HintPlacer q = withHint(20, 10, RIGHT, 0);
        due(q.hintOf(0, 8), 1);
        q.open(0);
        due(q.hintOf(0, 8), 0);
        q.close(0);
        due(q.hintOf(0, 8), 1);
    }

    private static void dueAtMostShown(int most) {
        HintPlacer p = new HintPlacer();
        for (int hint = 0; hint < 8; hint++) {
            p.anchor(10 + 20 * hint, 50, 5, 5);
            p.hint(hint, 5, 5, ABOVE, 0);
        }
        p.set(2, most);
        for (int hint = 0; hint < 8; hint++) {
            due(p.open(hint), hint < most ? 0 : 5);
        }
        due(p.count(7), most);
        // One that can't be shown takes the place of none.
        p.alter(0, 1, 200);
        due(p.hintOf(0, 8), 3);
        due(p.count(7), most);
        due(p.hintOf(most, 8), 0);
        due(p.hintOf(7, 8), most < 7 ? 5 : 0);
        p.moveAnchor(1, -500, 0);
        due(p.hintOf(1, 8), 2);
        due(p.count(7), most);
    }

    private static void reasonsByRank() {
        HintPlacer p = withHint(20, 10, RIGHT, 0);
        p.anchor(300, 50, 5, 5);
        p.hint(1, 20, 10, RIGHT, 0);
        p.hint(0, 87, 10, RIGHT, 0);
        p.hint(0, 20, 10, RIGHT, 0);
        p.open(0);
        due(p.open(1), 2);
        due(p.open(2), 3);
        due(p.open(3), 4);
        p.set(2, 1);
        int[] full = {0, 2, 5, 5};
        for (int hint = 0; hint < 4; hint++) {
            due(p.hintOf(hint, 8), full[hint]);
        }
        p.set(2, 2);
        int[] free = {0, 2, 3, 4};
        for (int hint = 0; hint < 4; hint++) {
            due(p.hintOf(hint, 8), free[hint]);
        }
    }

    private static void othersInTheWay() {
        terms("7, 11, 14", "Otherwise it is shown on the first side on which it is in sight, has no point in common with a hint that is"
            + " shown already, and, if the setting 4 is 1, with any anchor; if there is no such side, it waits: for the reason 3,"
            + " if it is in sight on no side that was tried, otherwise for the reason 4.");
        // The hint in question is from 114 to 133 and from 50 to 59; the other rectangle is 5 by 5.
        int[][] spots = {{134, 52, 0}, {133, 52, 4}, {109, 52, 0}, {110, 52, 4}, {120, 60, 0}, {120, 59, 4}, {120, 45, 0},
            {120, 46, 4}, {134, 60, 0}, {133, 59, 4}, {109, 45, 0}, {110, 46, 4}, {134, 45, 0}, {133, 46, 4}, {109, 60, 0},
            {110, 59, 4}};
        for (int[] spot : spots) {
            HintPlacer p = withHint(20, 10, RIGHT, 0);
            p.anchor(spot[0] - 9, spot[1], 5, 5);
            p.hint(1, 5, 5, RIGHT, 0);
            due(p.open(1), 0);
            due(p.open(0), spot[2]);
            due(p.at(spot[0], spot[1]), 1);
            HintPlacer q = withHint(20, 10, RIGHT, 0);
            q.anchor(spot[0], spot[1], 5, 5);
            due(q.open(0), 0);
            q.set(4, 1);
            due(q.hintOf(0, 8), spot[2]);
            q.set(4, 0);
            due(q.hintOf(0, 8), 0);
        }
        sidesNotFreeOrNotInSight();
        gapToOwnAnchor();
        anyAnchorInTheWay();
        whatIsNotThereIsNotInTheWay();
    }

    private static void sidesNotFreeOrNotInSight() {
        // On the right it is not in sight, on the left, which is tried with the flip 1, another one is in the way.
        HintPlacer p = withHint(20, 10, LEFT, 0);
        p.hint(0, 20, 10, RIGHT, 0);
        p.view(133, 120);
        p.open(0);
        due(p.open(1), 3);
        p.alter(1, 5, 1);
        due(p.hintOf(1, 8), 4);
        p.close(0);
        due(p.hintOf(1, 9), LEFT);
        p.open(0);
        p.alter(0, 7, 1);
        due(p.hintOf(1, 8), 4);
        p.alter(1, 5, 2);
        due(p.hintOf(1, 9), BELOW);
        // A waiting hint is in nobody's way.
        HintPlacer q = withHint(20, 10, RIGHT, 0);
        q.hint(0, 20, 30, RIGHT, 1);
        q.hint(0, 20, 10, RIGHT, 2);
        q.moveAnchor(0, 90, 100);
        due(q.open(0), 0);
        q.moveAnchor(0, 90, 109);
        due(q.open(1), 3);
        q.close(0);
        due(q.open(2), 0);
    }

    /** With the gap 0 a hint touches its own anchor, but has no point in common with it. */
    private static void gapToOwnAnchor() {
        for (int side = 0; side < 4; side++) {
            HintPlacer p = withHint(20, 10, side, 0);
            p.set(4, 1);
            p.set(0, 0);
            due(p.open(0), 0);
        }
    }

    /** Of ten anchors each one alone, and one that is added when the hint is shown already. */
    private static void anyAnchorInTheWay() {
        for (int number = 0; number < 10; number++) {
            HintPlacer p = withAnchors(10);
            p.moveAnchor((number + 1) % 10, 100, 100);
            p.alter(0, 0, (number + 1) % 10);
            p.alter(0, 3, RIGHT);
            p.set(4, 1);
            due(p.open(0), 0);
            due(p.moveAnchor(number, 114, 95), 1);
            due(p.moveAnchor(number, 113, 96), 0);
            due(p.hintOf(0, 8), 4);
        }
        HintPlacer p = withHint(20, 10, RIGHT, 0);
        p.set(4, 1);
        due(p.open(0), 0);
        p.anchor(134, 50, 5, 5);
        due(p.hintOf(0, 8), 0);
        p.anchor(133, 50, 5, 5);
        due(p.hintOf(0, 8), 4);
        p.undo();
        due(p.hintOf(0, 8), 0);
    }

    private static void whatIsNotThereIsNotInTheWay() {
        // The hint covers (0, 0), where a hint or an anchor without a place would stand.
        HintPlacer p = withHint(20, 10, LEFT, 0);
        p.scroll(-50, -50);
        p.moveAnchor(0, 14, -5);
        p.set(4, 1);
        due(p.open(0), 0);
        due(p.at(0, 0), 0);
        // What undo took away: a shown hint, then its anchor.
        HintPlacer q = withHint(20, 10, RIGHT, 0);
        q.anchor(105, 55, 5, 5);
        q.hint(1, 5, 5, RIGHT, 0);
        q.open(1);
        due(q.at(114, 55), 1);
        q.undo();
        q.undo();
        due(q.at(114, 55), NONE);
        due(q.open(0), 0);
        due(q.at(114, 55), 0);
        due(q.settle(), 1);
        due(q.count(7), 1);
        due(q.count(16), 200);
    }

    private static void rememberedSides() {
        terms("13, 23", "To settle remembers for each hint that is shown the side on which it is.");
        HintPlacer p = withHints(3);
        p.alter(2, 1, 57);
        p.alter(2, 2, 57);
        due(p.settle(), 0);
        p.open(0);
        due(p.open(2), 3);
        due(p.settle(), 1);
        due(p.hintOf(0, 15), ABOVE);
        due(p.hintOf(1, 15), NONE);
        due(p.hintOf(2, 15), NONE);
        due(p.count(8), 1);
        // One that waits at a later settling keeps the side it had.
        p.view(200, 20);
        due(p.hintOf(0, 8), 2);
        due(p.settle(), 0);
        due(p.hintOf(0, 15), ABOVE);

        terms("5, 10, 12, 13", "A remembered side is forgotten when the hint is closed, or alter is called for its anchor or its own side"
            + " (also with the same one); it is kept when the anchor is moved.");
        dueRemembered(NONE, (q, v) -> q.close(0));
        dueRemembered(NONE, (q, v) -> q.close(0) + q.open(0));
        dueRemembered(NONE, (q, v) -> q.alter(0, 0, 0));
        dueRemembered(NONE, (q, v) -> q.alter(0, 0, 1));
        dueRemembered(NONE, (q, v) -> q.alter(0, 3, RIGHT));
        dueRemembered(NONE, (q, v) -> q.alter(0, 3, LEFT));
        dueRemembered(RIGHT, (q, v) -> q.alter(0, 0, 2));
        dueRemembered(RIGHT, (q, v) -> q.alter(0, 3, 4));
        dueRemembered(RIGHT, (q, v) -> q.alter(0, 1, 21));
        dueRemembered(RIGHT, (q, v) -> q.alter(0, 2, 11));
        dueRemembered(RIGHT, (q, v) -> q.alter(0, 4, 2));
        dueRemembered(RIGHT, (q, v) -> q.alter(0, 5, 2));
        dueRemembered(RIGHT, (q, v) -> q.alter(0, 6, 1));
        dueRemembered(RIGHT, (q, v) -> q.alter(0, 7, 9));
        dueRemembered(RIGHT, (q, v) -> q.alter(1, 3, LEFT));
        dueRemembered(RIGHT, (q, v) -> q.close(1));
        dueRemembered(RIGHT, (q, v) -> q.moveAnchor(0, 90, 50));
        dueRemembered(RIGHT, (q, v) -> q.moveAnchor(0, 1000, 1000));
        dueRemembered(RIGHT, (q, v) -> q.view(20, 20));
        dueRemembered(RIGHT, (q, v) -> q.scroll(1000, 1000));
        dueRemembered(RIGHT, (q, v) -> q.set(3, 0));
        dueRemembered(RIGHT, (q, v) -> q.close(0) + q.undo());
        dueRemembered(RIGHT, (q, v) -> q.open(0));
    }

    private static void dueRemembered(int want, Call call) {
        HintPlacer p = withHint(20, 10, RIGHT, 0);
        p.anchor(10, 10, 5, 5);
        p.hint(1, 5, 5, BELOW, 0);
        p.open(0);
        p.open(1);
        due(p.settle(), 2);
        call.on(p, 0);
        due(p.hintOf(0, 15), want);
    }

    // ---- terms: orders

    private static void textsOfOrders() {
        terms("20, 22", "There is a text of at most 60 characters, initially empty: a sequence of orders, each followed by \";\":");
        HintPlacer p = new HintPlacer();
        due(p.count(10), 0);
        due(p.fault(0), NONE);
        for (int length = 1; length <= 60; length++) {
            due(p.type(length % 2 == 1 ? 't' : ';'), length);
            due(p.fault(0), length % 2 == 1 ? length - 1 : NONE);
        }
        due(p.type('t'), LIMIT);
        due(p.fault(0), NONE);
        due(p.carry(), 30);

        terms("22, 23", "\"o\" and a number (open the hint), \"c\" and a number (close it), \"v\" with two numbers and \",\" between them"
            + " (move the view by them, to the right and down), \"t\" (settle).");
        String[] good = {"", "o0;", "c0;", "v0,0;", "t;", "o0;c0;v1,2;t;", "t;t;", "c0;o0;"};
        for (String text : good) {
            dueFault(text, NONE, NONE);
        }
        String[] bad = {";", "0;", "o", "c", "v", "t", "o0", "c0", "v0,0", "o;", "c;", "v;", "v0;", "v0,;", "v,0;", "v,;", "v0,0,0;",
            "v00;", "v0;0;", "v0.0;", "t0;", "tt;", "oo;", "oc0;", "o,0;", "o0,0;", "c0,0;", "O0;", "C0;", "V0,0;", "T;", "n0;", "p0;",
            "b0;", "d0;", "u0,0;", "w0,0;", "s;", "u;", " ;", " t;", "t ;", "o 0;", "o0 ;", "v0, 0;", "v 0,0;", "~;", "t:", "t<",
            "t,", "o0:", "v0,0<", "v0+0;", "v0-0;"};
        for (String text : bad) {
            dueFault(text, 0, 1);
            dueFault("t;" + text, 2, 1);
        }
        HintPlacer q = withHints(1);
        write(q, "o0;v3,-4;t;");
        due(q.carry(), 3);
        due(q.hintOf(0, 8), 0);
        due(q.hintOf(0, 15), ABOVE);
        due(q.count(0), 3);
        due(q.count(1), -4);
        write(q, "c0;");
        due(q.carry(), 1);
        due(q.hintOf(0, 8), 1);

        terms("22, 23", "Numbers of hints have 1 or 2 digits; the numbers of \"v\" have an optional \"-\" and 1 to 3 digits.");
        String[] fitting = {"o0;", "o00;", "c0;", "c00;", "v0,0;", "v00,0;", "v000,0;", "v0,00;", "v0,000;", "v9,9;", "v999,999;",
            "v-9,9;", "v9,-9;", "v-999,-999;", "v-0,-0;", "v-000,-000;"};
        for (String text : fitting) {
            dueFault(text, NONE, NONE);
        }
        String[] unfit = {"o;", "o000;", "c;", "c000;", "o0000;", "o-0;", "c-0;", "o+0;", "v,0;", "v0,;", "v0000,0;", "v0,0000;",
            "v-,0;", "v0,-;", "v--0,0;", "v0,--0;", "v+0,0;", "v0,+0;", "v0-,0;", "v0,0-;", "v-0000,0;", "v0,-0000;", "v1000,0;",
            "o/;", "o:;", "o0/;", "o0:;", "v/,0;", "v0,:;", "v0/,0;", "v0,0:;"};
        for (String text : unfit) {
            dueFault(text, 0, 1);
        }
    }

    /** The hint 0 is there, and no other one. */
    private static void dueFault(String text, int position, int reason) {
        HintPlacer p = withHints(1);
        write(p, text);
        due(p.fault(0), position);
        due(p.fault(1), reason);
    }

    private static void faultsOfOrders() {
        terms("22", "The fault of the text is the position, from 0, of the first character of the first order that is not of this form"
            + " (its reason is 1), or, being of it, names a hint that there is not (its reason is 2).");
        dueFault("o1;", 0, 2);
        dueFault("o01;", 0, 2);
        dueFault("c1;", 0, 2);
        dueFault("c99;", 0, 2);
        dueFault("o1", 0, 1);
        dueFault("o1x;", 0, 1);
        dueFault("o100;", 0, 1);
        dueFault("o1;x;", 0, 2);
        dueFault("x;o1;", 0, 1);
        dueFault("t;o1;x;", 2, 2);
        dueFault("t;x;o1;", 2, 1);
        dueFault("o0;c1;o1;", 3, 2);
        dueFault("v-1,-1;o1;", 7, 2);
        dueFault("v-100,-100;o00;c1", 15, 1);
        dueFault("v1,1;t;;", 7, 1);
        dueFault("t;".repeat(29) + "t", 58, 1);
        dueFault("t;".repeat(29) + "tt", 58, 1);
        dueFault("o0;" + "t;".repeat(28) + "t", 59, 1);
        dueFault("o0;" + "t;".repeat(28) + ";", 59, 1);
        dueFault("t;".repeat(28) + "t;o1", 58, 1);
        dueFault("o0;" + "t;".repeat(27) + "o1;", 57, 2);
        for (int many : new int[] {1, 9, 10, 11, 12}) {
            HintPlacer p = withHints(many);
            write(p, "o" + (many - 1) + ";c" + (many - 1) + ";");
            due(p.fault(0), NONE);
            write(p, "o" + (many - 1) + ";o" + many + ";");
            due(p.fault(0), many - 1 < 10 ? 3 : 4);
            due(p.fault(1), 2);
            write(p, "c" + many + ";");
            due(p.fault(0), 0);
        }
        // Whether a hint is there is asked when the question comes.
        HintPlacer p = withHints(1);
        write(p, "o1;");
        due(p.fault(1), 2);
        p.hint(0, 1, 1, 0, 0);
        due(p.fault(1), NONE);
        p.undo();
        due(p.fault(1), 2);
        // What is of the form and not possible is no fault.
        HintPlacer q = withHints(1);
        write(q, "c0;v999,0;v999,0;v999,0;");
        due(q.fault(0), NONE);
    }

    private static void ordersCarriedOut() {
        terms("23", "Orders are carried out one after the other until one is not possible: to open an open hint, to close a closed one,"
            + " to move the view out of its range.");
        dueCarried("o0;", 1, 1, 0, 0);
        dueCarried("o0;o0;v1,1;", 1, 1, 0, 0);
        dueCarried("o0;c0;o0;c0;", 4, 0, 0, 0);
        dueCarried("c0;o0;", 0, 0, 0, 0);
        dueCarried("o0;c0;c0;o0;", 2, 0, 0, 0);
        dueCarried("v999,0;v999,0;v2,0;", 3, 0, 2000, 0);
        dueCarried("v999,0;v999,0;v3,0;o0;", 2, 0, 1998, 0);
        dueCarried("v-999,0;v-999,0;v-2,0;", 3, 0, -2000, 0);
        dueCarried("v-999,0;v-999,0;v-3,0;o0;", 2, 0, -1998, 0);
        dueCarried("v0,999;v0,999;v0,2;", 3, 0, 0, 2000);
        dueCarried("v0,999;v0,999;v0,3;o0;", 2, 0, 0, 1998);
        dueCarried("v0,-999;v0,-999;v0,-2;", 3, 0, 0, -2000);
        dueCarried("v0,-999;v0,-999;v0,-3;o0;", 2, 0, 0, -1998);
        // Neither way is gone if one of them leads out of the range.
        dueCarried("v999,0;v999,0;v1,1;v2,1;t;", 3, 0, 1999, 1);
        dueCarried("v0,999;v0,999;v1,3;t;", 2, 0, 0, 1998);
        dueCarried("v999,0;v999,0;v2,0;v0,0;v-1,0;", 5, 0, 1999, 0);
    }

    private static void dueCarried(String text, int carried, int open, int vx, int vy) {
        HintPlacer p = withHints(1);
        write(p, text);
        due(p.fault(0), NONE);
        due(p.carry(), carried);
        due(p.count(6), open);
        due(p.count(0), vx);
        due(p.count(1), vy);
        due(p.count(10), text.length());
    }

    // ---- terms: changes and errors

    /** Open are the hints 0 and 1 of three; all sides that are shown are remembered; the text has a fault. */
    private static HintPlacer busy() {
        HintPlacer p = withHint(20, 10, RIGHT, 0);
        p.anchor(10, 10, 5, 5);
        p.hint(0, 20, 10, LEFT, 0);
        p.hint(1, 30, 20, BELOW, 1);
        p.open(1);
        p.open(0);
        p.settle();
        write(p, "o9;");
        return p;
    }

    private static void changes() {
        terms("2 to 5, 7, 9 to 13, 19, 23", "The changes are the calls of view, scroll, anchor, moveAnchor, hint, alter, open, close, set,"
            + " settle and carry that return no error.");
        Call[] recorded = {(p, v) -> p.view(200, 120), (p, v) -> p.scroll(0, 0), (p, v) -> p.anchor(0, 0, 1, 1),
            (p, v) -> p.moveAnchor(0, 90, 50), (p, v) -> p.hint(0, 1, 1, 0, 0), (p, v) -> p.alter(0, 1, 20), (p, v) -> p.open(2),
            (p, v) -> p.close(0), (p, v) -> p.set(0, 4), (p, v) -> p.settle(), (p, v) -> carried(p, ""), (p, v) -> carried(p, "o0;"),
            (p, v) -> carried(p, "t;")};
        for (Call call : recorded) {
            HintPlacer p = busy();
            p.undo();
            due(p.count(9), 4);
            String before = tellState(p);
            dueTrue(call.on(p, 0) >= 0);
            due(p.count(9), 5);
            due(p.undo(), 4);
            dueTrue(tellState(p).equals(before));
        }
        Call[] unrecorded = {(p, v) -> p.anchorOf(0, 0), (p, v) -> p.count(0), (p, v) -> p.hintOf(0, 8), (p, v) -> p.room(0, 0),
            (p, v) -> p.ifOn(0, 0, 0), (p, v) -> p.at(0, 0), (p, v) -> p.sizeFor(0, 0), (p, v) -> p.type('t'),
            (p, v) -> p.clearText(), (p, v) -> p.fault(0), (p, v) -> p.view(19, 120), (p, v) -> p.scroll(1001, 0),
            (p, v) -> p.anchor(0, 0, 0, 1), (p, v) -> p.moveAnchor(2, 0, 0), (p, v) -> p.hint(0, 0, 1, 0, 0),
            (p, v) -> p.alter(0, 1, 0), (p, v) -> p.open(0), (p, v) -> p.close(2), (p, v) -> p.set(0, 31), (p, v) -> p.carry()};
        for (Call call : unrecorded) {
            HintPlacer p = busy();
            p.undo();
            String before = tellState(p);
            call.on(p, 0);
            due(p.count(9), 4);
            dueTrue(tellState(p).equals(before));
        }
    }

    private static int carried(HintPlacer p, String text) {
        write(p, text);
        return p.carry();
    }

    private static void historyOfFive() {
        terms("8, 19", "A history of at most 5 states is kept: each change records everything before it but the text, and if there are"
            + " 6 states then, the oldest one is dropped.");
        for (int made = 0; made <= 12; made++) {
            HintPlacer p = new HintPlacer();
            for (int i = 1; i <= made; i++) {
                p.view(100 + i, 50);
                due(p.count(9), Math.min(i, 5));
            }
            int kept = Math.min(made, 5);
            for (int back = 1; back <= kept; back++) {
                due(p.undo(), kept - back);
                due(p.count(2), made == back ? 200 : 100 + made - back);
            }
            due(p.undo(), IMPOSSIBLE);
            due(p.count(2), made <= 5 ? 200 : 100 + made - 5);
            due(p.view(300, 50), 0);
            due(p.count(9), 1);
            due(p.undo(), 0);
        }
        everythingButTheText();
    }

    private static void everythingButTheText() {
        HintPlacer p = busy();
        String before = tellState(p);
        p.view(400, 20);
        p.undo();
        dueTrue(tellState(p).equals(before));
        // The order of opening comes back too, and goes on from there.
        p.close(1);
        p.open(1);
        due(p.hintOf(1, 16), 1);
        p.undo();
        due(p.undo(), 3);
        due(p.hintOf(1, 16), 0);
        due(p.hintOf(0, 16), 1);
        dueTrue(tellState(p).equals(before));
        p.open(2);
        due(p.hintOf(2, 16), 2);
        // The text of before is not brought back, nor is its length.
        HintPlacer q = withHints(1);
        write(q, "o0;");
        q.view(100, 100);
        q.type('t');
        due(q.undo(), 2);
        due(q.count(10), 4);
        due(q.fault(0), 3);
        q.clearText();
        due(q.undo(), 1);
        due(q.count(10), 0);
    }

    private static void errorsByRank() {
        terms("3, 4, 9, 14, 18, 20, 22", "If several errors apply to a call, INVALID_ARGUMENT is returned rather than NOT_POSSIBLE,"
            + " NOT_POSSIBLE rather than LIMIT_REACHED, and LIMIT_REACHED rather than NOT_FOUND.");
        HintPlacer p = new HintPlacer();
        p.scroll(1000, 1000);
        p.scroll(1000, 1000);
        due(p.scroll(1, 0), IMPOSSIBLE);
        due(p.scroll(1, 1001), INVALID);
        due(p.scroll(1001, 1), INVALID);
        due(p.scroll(1, -1001), INVALID);
        HintPlacer q = withAnchors(10);
        due(q.anchor(0, 0, 1, 1), LIMIT);
        int[][] anchors = {{-1001, 0, 1, 1}, {0, 1001, 1, 1}, {0, 0, 0, 1}, {0, 0, 1, 201}};
        for (int[] one : anchors) {
            due(q.anchor(one[0], one[1], one[2], one[3]), INVALID);
        }
        HintPlacer r = withHints(12);
        due(r.hint(0, 1, 1, 0, 0), LIMIT);
        int[][] hints = {{1, 1, 1, 0, 0}, {-1, 1, 1, 0, 0}, {0, 0, 1, 0, 0}, {0, 1, 201, 0, 0}, {0, 1, 1, 4, 0}, {0, 1, 1, 0, 3}};
        for (int[] one : hints) {
            due(r.hint(one[0], one[1], one[2], one[3], one[4]), INVALID);
        }
        for (int what = 9; what <= 16; what++) {
            due(r.hintOf(0, what), NONE);
            due(r.hintOf(12, what), INVALID);
        }
        due(r.hintOf(0, 17), INVALID);
        HintPlacer s = new HintPlacer();
        due(s.fault(0), NONE);
        due(s.fault(2), INVALID);
        due(s.at(0, 0), NONE);
        due(s.at(0, 3001), INVALID);
        write(s, "t;".repeat(30));
        due(s.type(32), LIMIT);
        due(s.type(31), INVALID);
        due(s.type(127), INVALID);
        HintPlacer t = withHint(200, 200, ABOVE, 0);
        due(t.sizeFor(0, 0), NONE);
        due(t.sizeFor(0, 2), INVALID);
        due(t.sizeFor(1, 0), INVALID);
    }

    private static void errorsChangeNothing() {
        terms("2 to 23", "A call that returns an error changes nothing.");
        Call[] invalid = {(p, v) -> p.view(300, 401), (p, v) -> p.view(19, 100), (p, v) -> p.scroll(5, 1001),
            (p, v) -> p.scroll(-1001, 5), (p, v) -> p.anchor(1, 1, 1, 201), (p, v) -> p.moveAnchor(0, 5, 1001),
            (p, v) -> p.moveAnchor(2, 5, 5), (p, v) -> p.set(2, 0), (p, v) -> p.set(5, 0), (p, v) -> p.hint(0, 1, 1, 0, 3),
            (p, v) -> p.alter(0, 0, 2), (p, v) -> p.alter(0, 3, 4), (p, v) -> p.alter(0, 8, 0), (p, v) -> p.open(3),
            (p, v) -> p.close(3), (p, v) -> p.type(127), (p, v) -> p.type(31), (p, v) -> p.count(18), (p, v) -> p.hintOf(0, 17),
            (p, v) -> p.anchorOf(0, 7), (p, v) -> p.room(0, 4), (p, v) -> p.ifOn(0, 0, 5), (p, v) -> p.at(3001, 0),
            (p, v) -> p.sizeFor(0, 2), (p, v) -> p.fault(2)};
        for (Call call : invalid) {
            dueNothingChanged(BoundariesTest::busy, call, INVALID);
        }
        Call[] impossible = {(p, v) -> p.open(0), (p, v) -> p.close(2), (p, v) -> p.carry()};
        for (Call call : impossible) {
            dueNothingChanged(BoundariesTest::busy, call, IMPOSSIBLE);
        }
        dueNothingChanged(BoundariesTest::atTheEdge, (p, v) -> p.scroll(1, -5), IMPOSSIBLE);
        dueNothingChanged(BoundariesTest::atTheEdge, (p, v) -> p.scroll(-5, 1), IMPOSSIBLE);
        dueNothingChanged(HintPlacer::new, (p, v) -> p.undo(), IMPOSSIBLE);
        dueNothingChanged(() -> withAnchors(10), (p, v) -> p.anchor(1, 1, 1, 1), LIMIT);
        dueNothingChanged(() -> withHints(12), (p, v) -> p.hint(0, 1, 1, 1, 1), LIMIT);
        dueNothingChanged(BoundariesTest::withFullText, (p, v) -> p.type('x'), LIMIT);
        Call[] missing = {(p, v) -> p.hintOf(2, 9), (p, v) -> p.hintOf(2, 15), (p, v) -> p.hintOf(2, 16), (p, v) -> p.at(0, 0)};
        for (Call call : missing) {
            dueNothingChanged(BoundariesTest::busy, call, NONE);
        }
    }

    private static HintPlacer atTheEdge() {
        HintPlacer p = new HintPlacer();
        p.scroll(1000, 1000);
        p.scroll(1000, 1000);
        return p;
    }

    private static HintPlacer withFullText() {
        HintPlacer p = withHints(1);
        write(p, "t;".repeat(30));
        return p;
    }

    /** Nothing in sight is changed, nor in the state that undo would bring back. */
    private static void dueNothingChanged(Scene scene, Call call, int error) {
        HintPlacer p = scene.make();
        HintPlacer same = scene.make();
        due(call.on(p, 0), error);
        dueTrue(tell(p).equals(tell(same)));
        due(p.undo(), same.undo());
        dueTrue(tell(p).equals(tell(same)));
    }

    private static void numbersThatThereAreNot() {
        terms("5, 6, 9 to 12, 14 to 16, 18", "If there is no anchor or hint with a certain number, this is INVALID_ARGUMENT.");
        anchorNumbers((p, number) -> p.moveAnchor(number, 0, 0));
        anchorNumbers((p, number) -> p.anchorOf(number, 0));
        anchorNumbers((p, number) -> p.hint(number, 1, 1, 0, 0));
        anchorNumbers((p, number) -> p.alter(0, 0, number));
        hintNumbers((p, number) -> p.alter(number, 7, 1));
        hintNumbers((p, number) -> p.open(number));
        hintNumbers((p, number) -> p.close(number));
        hintNumbers((p, number) -> p.hintOf(number, 8));
        hintNumbers((p, number) -> p.room(number, 0));
        hintNumbers((p, number) -> p.ifOn(number, 0, 0));
        hintNumbers((p, number) -> p.sizeFor(number, 0));
        // One that was taken back is there no more.
        HintPlacer p = withHints(1);
        due(p.hintOf(0, 8), 1);
        p.undo();
        due(p.hintOf(0, 8), INVALID);
        due(p.anchorOf(0, 0), 90);
        p.undo();
        due(p.anchorOf(0, 0), INVALID);

        terms("2 to 18, 20, 22", "`INVALID_ARGUMENT = -10001`: An argument is out of its range, or there is no such anchor or hint.");
        due(HintPlacer.INVALID_ARGUMENT, -10001);
        due(new HintPlacer().count(18), -10001);
        terms("3, 11, 12, 19, 23", "`NOT_POSSIBLE = -10002`: The call is not possible in the present state.");
        due(HintPlacer.NOT_POSSIBLE, -10002);
        due(new HintPlacer().undo(), -10002);
        terms("4, 9, 20", "`LIMIT_REACHED = -10003`: A fixed limit has been reached.");
        due(HintPlacer.LIMIT_REACHED, -10003);
        due(withAnchors(10).anchor(0, 0, 1, 1), -10003);
        terms("14, 17, 18, 22", "`NOT_FOUND = -10004`: There is no such value.");
        due(HintPlacer.NOT_FOUND, -10004);
        due(new HintPlacer().at(0, 0), -10004);
    }

    // ---- the promises, one after the other

    private static void promise1NewObject() {
        promise(1, "Creates a view without anchors and hints.");
        HintPlacer p = new HintPlacer();
        due(p.count(4), 0);
        due(p.count(5), 0);
        due(p.anchorOf(0, 0), INVALID);
        due(p.hintOf(0, 8), INVALID);
        due(p.anchor(0, 0, 1, 1), 0);
        due(new HintPlacer().count(4), 0);
    }

    private static void promise2View() {
        promise(2, "Sets the size of the view.");
        HintPlacer p = withAnchor();
        due(p.view(20, 400), 0);
        due(p.count(2), 20);
        due(p.count(3), 400);
        promise(2, "`width`: 20 to 400");
        range(20, 400, (q, v) -> q.view(v, 120));
        promise(2, "`height`: 20 to 400");
        range(20, 400, (q, v) -> q.view(200, v));
        promise(2, "Returns how many hints are shown then; INVALID_ARGUMENT if an argument is out of range.");
        p = twoShown();
        int[][] sizes = {{134, 60, 2}, {133, 60, 1}, {134, 59, 0}, {86, 60, 0}, {91, 60, 1}, {90, 60, 0}, {133, 19, INVALID},
            {134, 60, 2}};
        for (int[] size : sizes) {
            due(p.view(size[0], size[1]), size[2]);
        }
    }

    private static void promise3Scroll() {
        promise(3, "Moves the view.");
        HintPlacer p = new HintPlacer();
        due(p.scroll(3, -4), 0);
        due(p.scroll(2, -1), 0);
        due(p.count(0), 5);
        due(p.count(1), -5);
        promise(3, "`dx`: -1000 to 1000: to the right");
        range(-1000, 1000, (q, v) -> q.scroll(v, 0));
        p.scroll(1000, 0);
        due(p.count(0), 1005);
        promise(3, "`dy`: -1000 to 1000: down");
        range(-1000, 1000, (q, v) -> q.scroll(0, v));
        p.scroll(0, 1000);
        due(p.count(1), 995);
        promise(3, "Returns how many hints are shown then; INVALID_ARGUMENT if an argument is out of range;"
            + " NOT_POSSIBLE if vx or vy would not be from -2000 to 2000.");
        p = twoShown();
        int[][] ways = {{66, 0, 2}, {1, 0, 1}, {42, 0, 1}, {1, 0, 0}, {-110, 50, 2}, {0, 1, 0}, {0, -111, 2}, {0, -1, 0},
            {1000, -1000, 0}, {1000, -939, 0}, {1, 0, IMPOSSIBLE}, {0, -1, IMPOSSIBLE}, {1001, 0, INVALID}, {0, 0, 0}};
        for (int[] way : ways) {
            due(p.scroll(way[0], way[1]), way[2]);
        }
        due(p.count(0), 2000);
        due(p.count(1), -2000);
    }

    private static void promise4Anchor() {
        promise(4, "Adds an anchor.");
        HintPlacer p = new HintPlacer();
        p.anchor(1, 2, 3, 4);
        for (int what = 0; what < 4; what++) {
            due(p.anchorOf(0, what), what + 1);
        }
        promise(4, "`x`: -1000 to 1000");
        range(-1000, 1000, (q, v) -> q.anchor(v, 0, 1, 1));
        promise(4, "`y`: -1000 to 1000");
        range(-1000, 1000, (q, v) -> q.anchor(0, v, 1, 1));
        promise(4, "`width`: 1 to 200");
        range(1, 200, (q, v) -> q.anchor(0, 0, v, 1));
        promise(4, "`height`: 1 to 200");
        range(1, 200, (q, v) -> q.anchor(0, 0, 1, v));
        promise(4, "Returns the number of the anchor; INVALID_ARGUMENT if an argument is out of range; LIMIT_REACHED if there are 10.");
        for (int number = 1; number < 10; number++) {
            due(p.anchor(0, 0, 201, 1), INVALID);
            due(p.anchor(0, 0, 200, 1), number);
        }
        due(p.anchor(0, 0, 200, 1), LIMIT);
        due(p.anchor(0, 0, 201, 1), INVALID);
        due(p.count(4), 10);
    }

    private static void promise5MoveAnchor() {
        promise(5, "Moves an anchor.");
        HintPlacer p = withAnchors(2);
        p.moveAnchor(1, -1000, 1000);
        int[] want = {-1000, 1000, 5, 5};
        for (int what = 0; what < 4; what++) {
            due(p.anchorOf(1, what), want[what]);
        }
        due(p.anchorOf(0, 0), 0);
        promise(5, "`anchor`: number of the anchor");
        anchorNumbers((q, number) -> q.moveAnchor(number, 1, 1));
        promise(5, "`x`: -1000 to 1000: its x then");
        range(-1000, 1000, (q, v) -> q.moveAnchor(0, v, 0));
        promise(5, "`y`: -1000 to 1000: its y then");
        range(-1000, 1000, (q, v) -> q.moveAnchor(0, 0, v));
        promise(5, "Returns how many hints are shown then; INVALID_ARGUMENT if an argument is out of range.");
        p = twoShown();
        int[][] spots = {{24, 0, 2}, {23, 0, 1}, {156, 110, 2}, {157, 110, 1}, {156, 111, 0}, {0, 0, 1}, {0, -1, 0}, {-9, 0, 1},
            {-19, 0, 1}, {-20, 0, 0}, {1001, 0, INVALID}, {199, 0, 1}, {200, 0, 0}};
        for (int[] spot : spots) {
            due(p.moveAnchor(0, spot[0], spot[1]), spot[2]);
        }
    }

    /** Open are the hint 0, on the right from 114 to 133, and the hint 1, on the left from 66 to 85; both from 50 to 59. */
    private static HintPlacer twoShown() {
        HintPlacer p = withHint(20, 10, RIGHT, 0);
        p.hint(0, 20, 10, LEFT, 0);
        due(p.open(0), 0);
        due(p.open(1), 0);
        return p;
    }

    private static void promise6AnchorOf() {
        promise(6, "Returns a property of an anchor.");
        HintPlacer p = twoShown();
        due(p.anchorOf(0, 0), 90);
        promise(6, "`anchor`: number of the anchor");
        anchorNumbers((q, number) -> q.anchorOf(number, 6));
        promise(6, "`what`: 0: x; 1: y; 2: its width; 3: its height; 4: 1 if it is in sight, otherwise 0; 5: hints that have it;"
            + " 6: how many of these are shown");
        range(0, 6, (q, v) -> q.anchorOf(0, v));
        int[] want = {90, 50, 20, 10, 1, 2, 2};
        for (int what = 0; what <= 6; what++) {
            due(p.anchorOf(0, what), want[what]);
        }
        HintPlacer full = withHints(12);
        due(full.anchorOf(0, 5), 12);
        due(full.anchorOf(0, 6), 0);
        full.set(2, 6);
        full.alter(4, 2, 20);
        for (int hint = 0; hint < 12; hint++) {
            full.open(hint);
        }
        due(full.anchorOf(0, 6), 4);
        due(withAnchors(2).anchorOf(1, 5), 0);
        promise(6, "Returns the property; INVALID_ARGUMENT if an argument is out of range.");
        due(p.anchorOf(0, 7), INVALID);
        due(p.anchorOf(1, 6), INVALID);
    }

    private static void promise7Set() {
        promise(7, "Sets a setting.");
        HintPlacer p = new HintPlacer();
        p.set(0, 30);
        due(p.count(11), 30);
        due(p.count(12), 6);
        promise(7, "`what`: 0 to 4");
        range(0, 4, (q, v) -> q.set(v, 1));
        promise(7, "`value`: a value in its range");
        range(0, 30, (q, v) -> q.set(0, v));
        range(0, 20, (q, v) -> q.set(1, v));
        range(1, 6, (q, v) -> q.set(2, v));
        range(0, 1, (q, v) -> q.set(3, v));
        range(0, 1, (q, v) -> q.set(4, v));
        promise(7, "Returns the previous value; INVALID_ARGUMENT if an argument is out of range.");
        due(p.set(0, 0), 30);
        due(p.set(0, 31), INVALID);
        due(p.set(0, 0), 0);
    }

    private static void promise8Count() {
        promise(8, "Returns a number.");
        due(new HintPlacer().count(2), 200);
        promise(8, "`what`: 0: vx; 1: vy; 2: the width of the view; 3: its height; 4: anchors; 5: hints; 6: open hints; 7: shown hints;"
            + " 8: remembered sides; 9: states in the history; 10: the length of the text; 11 to 15: the settings 0 to 4;"
            + " 16: points of the view that shown hints cover; 17: different corners of shown hints (upper left points, each once)");
        range(0, 17, (q, v) -> q.count(v));
        HintPlacer p = twoShown();
        p.hint(0, 87, 10, LEFT, 0);
        p.open(2);
        p.settle();
        p.scroll(-3, 5);
        p.view(199, 121);
        p.type('x');
        int[] want = {-3, 5, 199, 121, 1, 3, 3, 2, 2, 5, 1, 4, 6, 3, 1, 0, 400, 2};
        for (int what = 0; what <= 17; what++) {
            due(p.count(what), want[what]);
        }
        // At most: 10 anchors, 12 hints, all open, 5 states, 60 characters.
        HintPlacer full = withAnchors(10);
        for (int hint = 1; hint < 12; hint++) {
            full.hint(hint % 10, 5, 5, ABOVE, 0);
        }
        full.set(2, 6);
        for (int hint = 0; hint < 12; hint++) {
            full.open(hint);
        }
        due(full.settle(), 6);
        for (int length = 1; length <= 60; length++) {
            full.type('~');
        }
        int[] most = {0, 0, 200, 120, 10, 12, 12, 6, 6, 5, 60, 4, 6, 6, 1, 0, 150, 6};
        for (int what = 0; what <= 17; what++) {
            due(full.count(what), most[what]);
        }
        // The whole view but the strip of the anchor, and one point.
        HintPlacer large = new HintPlacer();
        large.anchor(0, 0, 200, 1);
        large.set(0, 0);
        large.hint(0, 200, 119, BELOW, 0);
        due(large.open(0), 0);
        due(large.count(16), 23800);
        due(large.count(17), 1);
        large.alter(0, 2, 120);
        due(large.count(16), 0);
        due(large.count(17), 0);
        large.alter(0, 1, 1);
        large.alter(0, 2, 1);
        due(large.count(16), 1);
        promise(8, "Returns the number; INVALID_ARGUMENT if what is out of range.");
        due(large.count(18), INVALID);
        due(large.count(-1), INVALID);
        due(large.count(17), 1);
    }

    private static void promise9Hint() {
        promise(9, "Adds a hint, which is closed, with the flip 0, the shift 0 and the priority 0.");
        HintPlacer p = withAnchors(2);
        due(p.hint(1, 2, 3, LEFT, 2), 1);
        int[] want = {1, 2, 3, LEFT, 2, 0, 0, 0, 1};
        for (int what = 0; what <= 8; what++) {
            due(p.hintOf(1, what), want[what]);
        }
        promise(9, "`anchor`: number of the anchor");
        anchorNumbers((q, number) -> q.hint(number, 1, 1, 0, 0));
        promise(9, "`width`: 1 to 200");
        range(1, 200, (q, v) -> q.hint(0, v, 1, 0, 0));
        promise(9, "`height`: 1 to 200");
        range(1, 200, (q, v) -> q.hint(0, 1, v, 0, 0));
        promise(9, "`side`: 0 to 3");
        range(0, 3, (q, v) -> q.hint(0, 1, 1, v, 0));
        promise(9, "`alignment`: 0 to 2");
        range(0, 2, (q, v) -> q.hint(0, 1, 1, 0, v));
        promise(9, "Returns the number of the hint; INVALID_ARGUMENT if an argument is out of range; LIMIT_REACHED if there are 12.");
        for (int number = 2; number < 12; number++) {
            due(p.hint(0, 0, 1, 0, 0), INVALID);
            due(p.hint(0, 1, 1, 0, 0), number);
        }
        due(p.hint(0, 1, 1, 0, 0), LIMIT);
        due(p.hint(0, 0, 1, 0, 0), INVALID);
        due(p.count(5), 12);
    }

    private static void promise10Alter() {
        promise(10, "Alters a hint.");
        HintPlacer p = withHints(2);
        p.alter(1, 1, 99);
        due(p.hintOf(1, 1), 99);
        due(p.hintOf(0, 1), 20);
        promise(10, "`hint`: number of the hint");
        hintNumbers((q, number) -> q.alter(number, 1, 1));
        promise(10, "`what`: 0: its anchor; 1: its width; 2: its height; 3: its side; 4: its alignment; 5: its flip; 6: its shift;"
            + " 7: its priority");
        for (int what : new int[] {-1, 8, LOW, HIGH}) {
            due(p.alter(0, what, 0), INVALID);
            due(p.alter(0, what, 1), INVALID);
        }
        promise(10, "`value`: a value in its range");
        range(0, 0, (q, v) -> q.alter(0, 0, v));
        int[] low = {0, 1, 1, 0, 0, 0, 0, 0};
        int[] high = {0, 200, 200, 3, 2, 2, 1, 9};
        for (int what = 1; what <= 7; what++) {
            int property = what;
            range(low[what], high[what], (q, v) -> q.alter(0, property, v));
        }
        promise(10, "Returns the previous value; INVALID_ARGUMENT if an argument is out of range.");
        due(p.alter(1, 1, 200), 99);
        due(p.alter(1, 1, 201), INVALID);
        due(p.alter(1, 1, 200), 200);
    }

    private static void promise11Open() {
        promise(11, "Opens a hint.");
        HintPlacer p = withHints(2);
        due(p.open(1), 0);
        due(p.count(6), 1);
        promise(11, "`hint`: number of the hint");
        hintNumbers((q, number) -> q.open(number));
        promise(11, "Returns its reason then; INVALID_ARGUMENT; NOT_POSSIBLE if it is open.");
        due(p.open(1), IMPOSSIBLE);
        due(p.open(2), INVALID);
        due(p.open(-1), INVALID);
        due(p.open(0), 0);
        due(p.open(0), IMPOSSIBLE);
        // An open hint that waits is open too.
        HintPlacer q = withHint(87, 10, RIGHT, 0);
        due(q.open(0), 3);
        due(q.open(0), IMPOSSIBLE);
        q.alter(0, 1, 86);
        due(q.hintOf(0, 8), 0);
        q.close(0);
        due(q.open(0), 0);
    }

    private static void promise12Close() {
        promise(12, "Closes a hint.");
        HintPlacer p = withHints(2);
        p.open(0);
        p.open(1);
        due(p.close(1), 1);
        due(p.hintOf(1, 8), 1);
        promise(12, "`hint`: number of the hint");
        hintNumbers((r, number) -> r.close(number));
        promise(12, "Returns how many hints are shown then; INVALID_ARGUMENT; NOT_POSSIBLE if it is closed.");
        due(p.close(1), IMPOSSIBLE);
        due(p.close(2), INVALID);
        due(p.close(-1), INVALID);
        due(p.close(0), 0);
        due(p.close(0), IMPOSSIBLE);
        HintPlacer r = withHint(20, 10, RIGHT, 0);
        r.hint(0, 20, 10, RIGHT, 0);
        r.open(0);
        due(r.open(1), 4);
        due(r.close(0), 1);
        due(r.hintOf(1, 8), 0);
        due(r.close(1), 0);
    }

    private static void promise13Settle() {
        promise(13, "Remembers the sides of the hints that are shown.");
        HintPlacer p = twoShown();
        p.settle();
        due(p.hintOf(0, 15), RIGHT);
        due(p.hintOf(1, 15), LEFT);
        promise(13, "Returns how many of them are on another side than the one that was remembered, or had none.");
        due(new HintPlacer().settle(), 0);
        HintPlacer q = twoShown();
        due(q.settle(), 2);
        due(q.settle(), 0);
        q.alter(0, 5, 1);
        q.close(1);
        q.view(133, 120);
        due(q.hintOf(0, 9), LEFT);
        due(q.settle(), 1);
        due(q.settle(), 0);
        q.open(1);
        due(q.hintOf(1, 8), 4);
        due(q.settle(), 0);
        q.alter(1, 5, 2);
        due(q.hintOf(1, 9), ABOVE);
        due(q.settle(), 1);
        q.view(66, 20);
        due(q.settle(), 0);
        due(q.count(8), 2);
    }

    private static void promise14HintOf() {
        promise(14, "Returns a property of a hint.");
        HintPlacer p = twoShown();
        due(p.hintOf(1, 3), LEFT);
        promise(14, "`hint`: number of the hint");
        hintNumbers((q, number) -> q.hintOf(number, 16));
        promise(14, "`what`: 0 to 7: as for alter; 8: its reason; 9: the side on which it is shown; 10 and 11: x and y of its upper left"
            + " point; 12: the place of its arrow; 13: 1 if its arrow is good, otherwise 0; 14: by how much it is shifted"
            + " (negative to the left or upward); 15: the remembered side; 16: its place in the order in which the open hints are"
            + " gone through, from 0");
        range(0, 16, (q, v) -> q.hintOf(0, v));
        p.settle();
        int[] want = {0, 20, 10, LEFT, 0, 0, 0, 0, 0, LEFT, 66, 50, 5, 0, 0, LEFT, 1};
        for (int what = 0; what <= 16; what++) {
            due(p.hintOf(1, what), want[what]);
        }
        shiftsOfPromise14();
        promise(14, "Returns the property; INVALID_ARGUMENT if an argument is out of range; NOT_FOUND for 9 to 14 if it is not shown,"
            + " for 15 if there is none, for 16 if it is closed.");
        dueMissing();
    }

    private static void promise15Room() {
        promise(15, "Returns the room on a side of the anchor of a hint: above the difference of y - gap and vy, below that of the end"
            + " of the view (vy + its height) and y + ah + gap, left and right likewise.");
        HintPlacer p = twoShown();
        int[] rooms = {46, 86, 56, 86};
        for (int side = 0; side < 4; side++) {
            due(p.room(0, side), rooms[side]);
        }
        p.scroll(7, -5);
        p.view(210, 140);
        p.set(0, 30);
        int[] roomsThen = {25, 77, 45, 53};
        for (int side = 0; side < 4; side++) {
            due(p.room(0, side), roomsThen[side]);
        }
        promise(15, "`hint`: number of the hint");
        hintNumbers((q, number) -> q.room(number, 3));
        promise(15, "`side`: 0 to 3");
        range(0, 3, (q, v) -> q.room(0, v));
        promise(15, "Returns the room, possibly negative; INVALID_ARGUMENT if an argument is out of range.");
        roomsAroundZero();
    }

    private static void promise16IfOn() {
        promise(16, "Tells something of a hint on a side, whether it is open or not, without regard to other hints and anchors.");
        ifOnWithoutRegard();
        promise(16, "`hint`: number of the hint");
        hintNumbers((q, number) -> q.ifOn(number, 3, 4));
        promise(16, "`side`: 0 to 3");
        range(0, 3, (q, v) -> q.ifOn(0, v, 0));
        promise(16, "`what`: 0: 1 if it would be in sight, otherwise 0; 1 and 2: x and y; 3: by how much it would be shifted;"
            + " 4: the place of its arrow");
        range(0, 4, (q, v) -> q.ifOn(0, 0, v));
        HintPlacer q = withHint(60, 10, ABOVE, 1);
        q.alter(0, 6, 1);
        q.view(129, 120);
        int[] told = {1, 69, 36, -1, 31};
        for (int what = 0; what <= 4; what++) {
            due(q.ifOn(0, ABOVE, what), told[what]);
        }
        promise(16, "Returns that; INVALID_ARGUMENT if an argument is out of range.");
        due(q.ifOn(0, ABOVE, 5), INVALID);
        due(q.ifOn(0, 4, 0), INVALID);
        due(q.ifOn(1, 0, 0), INVALID);
    }

    private static void shiftsOfPromise14() {
        HintPlacer p = withHint(60, 10, ABOVE, 1);
        p.alter(0, 6, 1);
        p.open(0);
        int[][] level = {{70, 0}, {71, 1}, {-70, 0}, {-71, -1}};
        for (int[] one : level) {
            p.scroll(one[0] - p.count(0), 0);
            due(p.hintOf(0, 14), one[1]);
        }
        HintPlacer q = withHint(10, 40, LEFT, 1);
        q.alter(0, 6, 1);
        q.open(0);
        int[][] upright = {{35, 0}, {36, 1}, {-45, 0}, {-46, -1}};
        for (int[] one : upright) {
            q.scroll(0, one[0] - q.count(1));
            due(q.hintOf(0, 14), one[1]);
        }
    }

    private static void dueMissing() {
        // Hint 1 is shown, 2 to 4 wait for the reasons 2 to 4, 5 for the reason 5, and 0 is closed.
        HintPlacer p = withHint(20, 10, RIGHT, 0);
        p.anchor(300, 50, 5, 5);
        p.hint(0, 20, 10, RIGHT, 0);
        p.hint(1, 20, 10, RIGHT, 0);
        p.hint(0, 87, 10, RIGHT, 0);
        p.hint(0, 20, 10, RIGHT, 0);
        p.hint(0, 20, 10, LEFT, 0);
        p.hint(0, 20, 10, ABOVE, 0);
        p.set(2, 2);
        for (int hint = 1; hint <= 4; hint++) {
            p.open(hint);
        }
        p.open(6);
        p.open(5);
        int[] reasons = {1, 0, 2, 3, 4, 5, 0};
        for (int hint = 0; hint <= 6; hint++) {
            due(p.hintOf(hint, 8), reasons[hint]);
            for (int what = 9; what <= 14; what++) {
                dueTrue((p.hintOf(hint, what) == NONE) == (reasons[hint] != 0));
            }
            due(p.hintOf(hint, 15), NONE);
            dueTrue((p.hintOf(hint, 16) == NONE) == (hint == 0));
        }
        p.settle();
        for (int hint = 0; hint <= 6; hint++) {
            dueTrue((p.hintOf(hint, 15) == NONE) == (reasons[hint] != 0));
        }
        due(p.hintOf(0, 17), INVALID);
        due(p.hintOf(0, -1), INVALID);
        due(p.hintOf(7, 9), INVALID);
    }

    private static void roomsAroundZero() {
        // With the gap 4: x or y of the anchor, side, room.
        int[][] spots = {{4, ABOVE, 0}, {3, ABOVE, -1}, {5, ABOVE, 1}, {4, LEFT, 0}, {3, LEFT, -1}, {5, LEFT, 1},
            {106, BELOW, 0}, {107, BELOW, -1}, {105, BELOW, 1}, {176, RIGHT, 0}, {177, RIGHT, -1}, {175, RIGHT, 1}};
        for (int[] spot : spots) {
            HintPlacer p = withHint(20, 10, spot[1], 0);
            p.moveAnchor(0, spot[0], spot[0]);
            due(p.room(0, spot[1]), spot[2]);
        }
        HintPlacer p = new HintPlacer();
        p.anchor(1000, 1000, 200, 200);
        p.hint(0, 1, 1, 0, 0);
        p.set(0, 30);
        p.view(20, 20);
        for (int i = 0; i < 2; i++) {
            p.scroll(-1000, -1000);
        }
        due(p.room(0, RIGHT), -3210);
        due(p.room(0, BELOW), -3210);
        due(p.room(0, LEFT), 2970);
        due(p.room(0, ABOVE), 2970);
    }

    private static void ifOnWithoutRegard() {
        HintPlacer p = withHint(20, 10, RIGHT, 0);
        p.hint(0, 20, 10, RIGHT, 0);
        due(p.ifOn(1, RIGHT, 0), 1);
        p.open(0);
        due(p.open(1), 4);
        due(p.ifOn(1, RIGHT, 0), 1);
        p.close(0);
        p.anchor(120, 50, 5, 5);
        p.set(4, 1);
        due(p.hintOf(1, 8), 4);
        due(p.ifOn(1, RIGHT, 0), 1);
        // Nor to whether its own anchor is in sight, or which sides it would try.
        p.moveAnchor(0, -20, 50);
        due(p.hintOf(1, 8), 2);
        due(p.ifOn(1, RIGHT, 0), 1);
        due(p.ifOn(1, RIGHT, 1), 4);
        due(p.ifOn(1, LEFT, 0), 0);
        due(p.ifOn(1, LEFT, 1), -44);
    }

    private static void promise17At() {
        promise(17, "Returns the shown hint at a point.");
        HintPlacer p = twoShown();
        due(p.at(114, 50), 0);
        due(p.at(85, 59), 1);
        promise(17, "`x`: -3000 to 3000");
        range(-3000, 3000, (q, v) -> q.at(v, 0));
        promise(17, "`y`: -3000 to 3000");
        range(-3000, 3000, (q, v) -> q.at(0, v));
        promise(17, "Returns the hint; INVALID_ARGUMENT if an argument is out of range; NOT_FOUND if there is none.");
        int[][] points = {{3000, 3000, NONE}, {-3000, -3000, NONE}, {3001, 50, INVALID}, {114, -3001, INVALID}, {113, 50, NONE},
            {86, 50, NONE}, {65, 50, NONE}, {66, 50, 1}, {133, 59, 0}, {134, 59, NONE}, {66, 60, NONE}, {133, 49, NONE}};
        for (int[] point : points) {
            due(p.at(point[0], point[1]), point[2]);
        }
        p.close(0);
        due(p.at(114, 50), NONE);
        p.scroll(67, 0);
        due(p.hintOf(1, 8), 3);
        due(p.at(67, 50), NONE);
    }

    private static void promise18SizeFor() {
        promise(18, "Returns the least width of the view, or its least height, with which a hint would be in sight on one of its sides"
            + " (those that would be tried), vx, vy and the other size being as they are, without regard to other hints and anchors,"
            + " and whether its anchor is in sight or not.");
        sizesWithoutRegard();
        sizesOfSides();
        promise(18, "`hint`: number of the hint");
        hintNumbers((q, number) -> q.sizeFor(number, 1));
        promise(18, "`what`: 0: the width; 1: the height");
        range(0, 1, (q, v) -> q.sizeFor(0, v));
        HintPlacer p = withHint(40, 30, RIGHT, 0);
        due(p.sizeFor(0, 0), 154);
        due(p.sizeFor(0, 1), 80);
        promise(18, "Returns the size, 20 to 400; INVALID_ARGUMENT if an argument is out of range; NOT_FOUND if there is none.");
        sizesAtTheirEnds();
    }

    private static void promise19Undo() {
        promise(19, "Restores the latest state of the history, which is removed from it.");
        HintPlacer p = new HintPlacer();
        p.view(101, 50);
        p.view(102, 50);
        due(p.undo(), 1);
        due(p.count(2), 101);
        due(p.count(9), 1);
        promise(19, "Returns the number of states that are left in the history; NOT_POSSIBLE if it is empty.");
        due(p.undo(), 0);
        due(p.undo(), IMPOSSIBLE);
        due(p.count(2), 200);
        for (int width = 20; width < 25; width++) {
            p.view(width, 50);
        }
        for (int left = 4; left >= 0; left--) {
            due(p.undo(), left);
        }
        due(p.undo(), IMPOSSIBLE);
    }

    private static void sizesWithoutRegard() {
        HintPlacer p = withHint(20, 10, RIGHT, 0);
        p.hint(0, 20, 10, RIGHT, 0);
        p.anchor(120, 50, 5, 5);
        p.set(4, 1);
        p.set(2, 1);
        p.hint(1, 20, 10, ABOVE, 0);
        p.open(2);
        p.open(0);
        due(p.hintOf(0, 8), 5);
        due(p.sizeFor(0, 0), 134);
        due(p.sizeFor(1, 0), 134);
        due(p.sizeFor(0, 1), 60);
        // The present size of the same direction does not matter, the other one and the place of the view do.
        p.view(20, 60);
        due(p.sizeFor(0, 0), 134);
        due(p.count(2), 20);
        due(p.count(9), 5);
        p.view(134, 20);
        due(p.sizeFor(0, 1), 60);
        due(p.sizeFor(0, 0), NONE);
        p.view(133, 60);
        due(p.sizeFor(0, 1), NONE);
        p.scroll(50, 0);
        due(p.sizeFor(0, 0), 84);
        p.scroll(64, 0);
        due(p.sizeFor(0, 0), 20);
        due(p.anchorOf(0, 4), 0);
        p.scroll(1, 0);
        due(p.sizeFor(0, 0), NONE);
        p.scroll(-1, 50);
        due(p.sizeFor(0, 1), 20);
        p.scroll(0, 1);
        due(p.sizeFor(0, 1), NONE);
    }

    private static void sizesOfSides() {
        // 40 by 30: its right ends at 154, its left at 86, its top at 46, its bottom at 94; it lies within the view's other size.
        int[][] flips = {{0, 154, 80}, {1, 86, 80}, {2, 86, 46}};
        HintPlacer p = withHint(40, 30, RIGHT, 0);
        for (int[] flip : flips) {
            p.alter(0, 5, flip[0]);
            due(p.sizeFor(0, 0), flip[1]);
            due(p.sizeFor(0, 1), flip[2]);
        }
        // The remembered side counts, if sides are remembered.
        HintPlacer q = withHint(40, 30, RIGHT, 0);
        q.alter(0, 5, 1);
        q.open(0);
        q.view(153, 120);
        due(q.settle(), 1);
        q.alter(0, 5, 0);
        due(q.sizeFor(0, 0), 86);
        q.set(3, 0);
        due(q.sizeFor(0, 0), 154);
        q.set(3, 1);
        q.close(0);
        due(q.sizeFor(0, 0), 154);
        // So does the shift, as far as the arrow lets it go, and only where the hint is not longer than the view.
        HintPlacer r = withHint(60, 10, ABOVE, 0);
        due(r.sizeFor(0, 0), 150);
        r.alter(0, 6, 1);
        due(r.sizeFor(0, 0), 107);
        r.set(1, 11);
        due(r.sizeFor(0, 0), 60);
        r.alter(0, 1, 61);
        due(r.sizeFor(0, 0), 61);
    }

    private static void sizesAtTheirEnds() {
        HintPlacer p = withHint(10, 10, RIGHT, 0);
        // x of the anchor, least width: the hint ends 34 to the right of it.
        int[][] spots = {{-25, NONE}, {-24, 20}, {-14, 20}, {-13, 21}, {365, 399}, {366, 400}, {367, NONE}};
        for (int[] spot : spots) {
            p.moveAnchor(0, spot[0], 50);
            due(p.sizeFor(0, 0), spot[1]);
        }
        HintPlacer q = withHint(10, 10, BELOW, 0);
        int[][] rows = {{-15, NONE}, {-14, 20}, {-4, 20}, {-3, 21}, {375, 399}, {376, 400}, {377, NONE}};
        for (int[] row : rows) {
            q.moveAnchor(0, 90, row[0]);
            due(q.sizeFor(0, 1), row[1]);
        }
        due(q.sizeFor(0, 2), INVALID);
        due(q.sizeFor(0, -1), INVALID);
        due(q.sizeFor(1, 0), INVALID);
        // By a shift: 60 wide, it begins 20 before the anchor and may go back by 29 with the arrow 0.
        HintPlacer r = withHint(60, 10, ABOVE, 1);
        r.alter(0, 6, 1);
        r.set(1, 0);
        r.moveAnchor(0, 389, 50);
        due(r.sizeFor(0, 0), 400);
        r.moveAnchor(0, 390, 50);
        due(r.sizeFor(0, 0), NONE);
        r.moveAnchor(0, 388, 50);
        due(r.sizeFor(0, 0), 399);
    }

    private static void promise20Type() {
        promise(20, "Appends a character to the text.");
        HintPlacer p = withHints(1);
        due(p.type('o'), 1);
        due(p.type('0'), 2);
        due(p.fault(0), 0);
        due(p.type(';'), 3);
        due(p.fault(0), NONE);
        promise(20, "`character`: 32 to 126");
        range(32, 126, (q, v) -> q.type(v));
        promise(20, "Returns the length of the text; INVALID_ARGUMENT if character is out of range; LIMIT_REACHED if it has 60 characters.");
        for (int length = 4; length <= 60; length++) {
            due(p.type(127), INVALID);
            due(p.type(126), length);
        }
        due(p.type(32), LIMIT);
        due(p.type(31), INVALID);
        due(p.count(10), 60);
        due(p.fault(0), 3);
    }

    private static void promise21ClearText() {
        promise(21, "Empties the text.");
        HintPlacer p = new HintPlacer();
        write(p, "t;x");
        due(p.fault(0), 2);
        p.clearText();
        due(p.count(10), 0);
        due(p.fault(0), NONE);
        promise(21, "Returns the length it had.");
        due(p.clearText(), 0);
        p.type('t');
        due(p.clearText(), 1);
        write(p, "t;".repeat(30));
        due(p.clearText(), 60);
        due(p.type('t'), 1);
        due(p.fault(0), 0);
    }

    private static void promise22Fault() {
        promise(22, "Tells about the fault of the text.");
        HintPlacer p = withHints(1);
        write(p, "t;t");
        due(p.fault(0), 2);
        due(p.fault(1), 1);
        promise(22, "`what`: 0: its position; 1: its reason");
        range(0, 1, (q, v) -> q.fault(v));
        write(p, "t;o1;");
        due(p.fault(0), 2);
        due(p.fault(1), 2);
        promise(22, "Returns that; INVALID_ARGUMENT if what is out of range; NOT_FOUND if the text has no fault (also if it is empty).");
        due(p.fault(2), INVALID);
        due(p.fault(-1), INVALID);
        write(p, "t;o0;");
        due(p.fault(0), NONE);
        due(p.fault(1), NONE);
        p.clearText();
        due(p.fault(0), NONE);
        due(p.fault(1), NONE);
        due(p.fault(2), INVALID);
    }

    private static void promise23Carry() {
        promise(23, "Carries the orders of the text out, which stays, until one is not possible.");
        HintPlacer p = withHints(1);
        write(p, "o0;v1,0;");
        due(p.carry(), 2);
        due(p.count(10), 8);
        due(p.fault(0), NONE);
        due(p.carry(), 0);
        due(p.count(0), 1);
        promise(23, "They are one change, also if none is carried out.");
        due(p.count(9), 4);
        due(p.undo(), 3);
        due(p.count(0), 1);
        due(p.undo(), 2);
        due(p.count(0), 0);
        due(p.count(6), 0);
        HintPlacer q = new HintPlacer();
        due(q.carry(), 0);
        due(q.count(9), 1);
        due(q.undo(), 0);
        write(q, "v1,0;".repeat(12));
        due(q.carry(), 12);
        due(q.count(9), 1);
        due(q.undo(), 0);
        due(q.count(0), 0);
        // Orders settle by what is shown right there; opened is in the order of the orders.
        HintPlacer r = withHint(20, 10, RIGHT, 0);
        r.hint(0, 20, 10, RIGHT, 0);
        r.alter(0, 5, 1);
        write(r, "o1;o0;t;c1;");
        due(r.carry(), 4);
        due(r.hintOf(0, 15), LEFT);
        due(r.hintOf(0, 9), LEFT);
        promise(23, "Returns how many orders are carried out; NOT_POSSIBLE if the text has a fault.");
        HintPlacer s = withHints(1);
        write(s, "t;".repeat(30));
        due(s.carry(), 30);
        int states = s.count(9);
        for (String text : new String[] {"o0;x;", "o0;o1;", "o0;t"}) {
            write(s, text);
            due(s.carry(), IMPOSSIBLE);
            due(s.count(6), 0);
            due(s.count(9), states);
        }
        write(s, "o0;t;");
        due(s.carry(), 2);
    }

    // ---- the document

    /** Every sentence of the document was quoted under its promise, and every quotation stands there. */
    private static void everySentenceIsQuoted() throws IOException {
        if (!Files.isReadable(DOCUMENT)) {
            System.out.println("no document at " + DOCUMENT + ": the quotations were not looked up");
            return;
        }
        Map<Integer, List<String>> sentences = sentencesOfDocument();
        dueTrueFor(sentences.size() == 24, "the document has " + (sentences.size() - 1) + " promises");
        for (int part = TERMS; part <= 23; part++) {
            List<String> there = sentences.getOrDefault(part, List.of());
            List<String> here = quoted.getOrDefault(part, List.of());
            for (String one : there) {
                dueTrueFor(here.stream().anyMatch(one::contains), "not quoted under " + part + ": " + one);
            }
            for (String words : here) {
                dueTrueFor(there.stream().anyMatch(one -> one.contains(words)), "not in the document under " + part + ": " + words);
            }
        }
    }

    private static void dueTrueFor(boolean holds, String otherwise) {
        if (!holds) {
            wrong++;
            System.out.println(otherwise);
        }
    }

    private static Map<Integer, List<String>> sentencesOfDocument() throws IOException {
        Map<Integer, List<String>> sentences = new HashMap<>();
        int part = -1;
        for (String line : Files.readAllLines(DOCUMENT)) {
            if (line.startsWith("## ")) {
                part = partOf(line);
            } else if (part >= 0 && !line.isBlank() && !line.startsWith("#") && !namesNoBoundary(line)) {
                for (String one : line.split("(?<=[.)])\\s+(?=\\(?[A-Z]\\w* )")) {
                    sentences.computeIfAbsent(part, key -> new ArrayList<>()).add(one);
                }
            }
        }
        return sentences;
    }

    private static int partOf(String heading) {
        if (heading.startsWith("## Promise ")) {
            return Integer.parseInt(heading.replaceAll("\\D*(\\d+).*", "$1"));
        }
        return heading.equals("## What it is") || heading.equals("## Terms") ? TERMS : -1;
    }

    private static boolean namesNoBoundary(String line) {
        return line.startsWith("Hints placed by anchors in a view") || line.equals("View, anchors")
            || line.startsWith("Ahead of the calls");
    }
}

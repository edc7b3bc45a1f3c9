/** Each promise of the document by examples that were worked out by hand: ordinary inputs, edges, wrong inputs. */
public final class PromisesTest {
    private static final int INVALID = -10001;
    private static final int IMPOSSIBLE = -10002;
    private static final int LIMIT = -10003;
    private static final int NONE = -10004;
    private static final int LOW = Integer.MIN_VALUE;
    private static final int HIGH = Integer.MAX_VALUE;

    private static final int ABOVE = 0;
    private static final int RIGHT = 1;
    private static final int BELOW = 2;
    private static final int LEFT = 3;

    private static int wrong = 0;
    private static int asked = 0;
    private static String part = "";

    public static void main(String[] args) {
        promise1NewObject();
        promise2View();
        promise3Scroll();
        promise4Anchor();
        promise5MoveAnchor();
        promise6AnchorOf();
        promise7Set();
        promise8Count();
        promise9Hint();
        promise10Alter();
        promise11Open();
        promise12Close();
        promise13Settle();
        promise14HintOf();
        promise15Room();
        promise16IfOn();
        promise17At();
        promise18SizeFor();
        promise19Undo();
        promise20Type();
        promise21ClearText();
        promise22Fault();
        promise23Carry();
        termsPlaces();
        termsShifts();
        termsTries();
        termsReasons();
        errorsChangeNothing();
        if (wrong != 0) {
            System.out.println(wrong + " answers are not as due");
            System.exit(1);
        }
    }

    private static void part(String name) {
        part = name;
        asked = 0;
    }

    private static void due(int got, int want) {
        asked++;
        if (got != want) {
            wrong++;
            System.out.println(part + ", answer " + asked + ": " + got + ", due is " + want);
        }
    }

    /** The hint's properties from 9 to 14: side, x, y, place of the arrow, whether it is good, shift. */
    private static void dueShown(HintPlacer p, int hint, int... want) {
        due(p.hintOf(hint, 8), 0);
        for (int i = 0; i < want.length; i++) {
            due(p.hintOf(hint, 9 + i), want[i]);
        }
    }

    private static void dueWaiting(HintPlacer p, int hint, int reason) {
        due(p.hintOf(hint, 8), reason);
        for (int what = 9; what <= 14; what++) {
            due(p.hintOf(hint, what), NONE);
        }
    }

    private static void write(HintPlacer p, String text) {
        p.clearText();
        for (int i = 0; i < text.length(); i++) {
            due(p.type(text.charAt(i)), i + 1);
        }
    }

    /** A view of 200 by 120 with an anchor of 20 by 10 at (90, 50), with room on all sides. */
    private static HintPlacer withAnchor() {
        HintPlacer p = new HintPlacer();
        due(p.anchor(90, 50, 20, 10), 0);
        return p;
    }

    private static void promise1NewObject() {
        part("promise 1");
        HintPlacer p = new HintPlacer();
        int[] first = {0, 0, 200, 120, 0, 0, 0, 0, 0, 0, 0, 4, 6, 3, 1, 0, 0, 0};
        for (int what = 0; what < first.length; what++) {
            due(p.count(what), first[what]);
        }
        due(p.anchorOf(0, 0), INVALID);
        due(p.hintOf(0, 0), INVALID);
        due(p.at(0, 0), NONE);
        due(p.undo(), IMPOSSIBLE);
        due(p.fault(0), NONE);
        due(p.clearText(), 0);
        HintPlacer other = new HintPlacer();
        p.anchor(0, 0, 1, 1);
        due(other.count(4), 0);
    }

    private static void promise2View() {
        part("promise 2");
        HintPlacer p = withAnchor();
        p.hint(0, 20, 10, RIGHT, 0);
        p.open(0);
        due(p.view(20, 20), 0);
        due(p.count(2), 20);
        due(p.count(3), 20);
        due(p.view(400, 400), 1);
        due(p.view(134, 60), 1);
        due(p.view(133, 60), 0);
        due(p.view(134, 59), 0);
        due(p.count(2), 134);
        due(p.count(3), 59);
        int[][] bad = {{19, 100}, {401, 100}, {100, 19}, {100, 401}, {LOW, 100}, {HIGH, 100}, {100, LOW}, {100, HIGH}, {0, 0}};
        for (int[] size : bad) {
            due(p.view(size[0], size[1]), INVALID);
        }
        due(p.count(2), 134);
        due(p.count(3), 59);
        due(p.count(9), 5);
    }

    private static void promise3Scroll() {
        part("promise 3");
        HintPlacer p = withAnchor();
        p.hint(0, 20, 10, ABOVE, 0);
        p.open(0);
        due(p.scroll(90, 36), 1);
        due(p.count(0), 90);
        due(p.count(1), 36);
        due(p.scroll(1, 0), 0);
        due(p.scroll(-1, 1), 0);
        due(p.scroll(0, -1), 1);
        due(p.scroll(-90, -36), 1);
        due(p.scroll(-90, -60), 1);
        due(p.scroll(-1, 0), 0);
        due(p.scroll(91, 60), 1);
        due(p.scroll(1001, 0), INVALID);
        due(p.scroll(-1001, 0), INVALID);
        due(p.scroll(0, 1001), INVALID);
        due(p.scroll(0, -1001), INVALID);
        due(p.scroll(LOW, 0), INVALID);
        due(p.scroll(0, HIGH), INVALID);
        due(p.scroll(1000, -1000), 0);
        due(p.scroll(1000, -1000), 0);
        due(p.count(0), 2000);
        due(p.count(1), -2000);
        due(p.scroll(1, 0), IMPOSSIBLE);
        due(p.scroll(0, -1), IMPOSSIBLE);
        due(p.scroll(1001, -1001), INVALID);
        due(p.scroll(-1, 1), 0);
        due(p.scroll(1, -1), 0);
        due(p.scroll(-1000, 1000), 0);
        due(p.scroll(-1000, 1000), 1);
        due(p.scroll(-1000, 1000), 0);
        due(p.scroll(-1000, 1000), 0);
        due(p.scroll(-1, 0), IMPOSSIBLE);
        due(p.scroll(0, 1), IMPOSSIBLE);
        due(p.count(0), -2000);
        due(p.count(1), 2000);
    }

    private static void promise4Anchor() {
        part("promise 4");
        HintPlacer p = new HintPlacer();
        due(p.anchor(-1000, -1000, 1, 1), 0);
        due(p.anchor(1000, 1000, 200, 200), 1);
        int[][] bad = {{-1001, 0, 1, 1}, {1001, 0, 1, 1}, {0, -1001, 1, 1}, {0, 1001, 1, 1}, {0, 0, 0, 1}, {0, 0, 201, 1},
            {0, 0, 1, 0}, {0, 0, 1, 201}, {LOW, 0, 1, 1}, {0, HIGH, 1, 1}, {0, 0, LOW, 1}, {0, 0, 1, HIGH}};
        for (int[] one : bad) {
            due(p.anchor(one[0], one[1], one[2], one[3]), INVALID);
        }
        due(p.count(9), 2);
        for (int number = 2; number < 10; number++) {
            due(p.anchor(number, 20 + number, 40 + number, 60 + number), number);
        }
        due(p.anchor(0, 0, 1, 1), LIMIT);
        due(p.anchor(0, 0, 0, 1), INVALID);
        due(p.count(4), 10);
        due(p.anchorOf(9, 0), 9);
        due(p.anchorOf(9, 1), 29);
        due(p.anchorOf(9, 2), 49);
        due(p.anchorOf(9, 3), 69);
        due(p.anchorOf(1, 2), 200);
        newAnchorPushesHint();
    }

    /** With the setting 4 a new anchor can make a shown hint wait. */
    private static void newAnchorPushesHint() {
        HintPlacer p = withAnchor();
        p.set(4, 1);
        p.hint(0, 20, 10, RIGHT, 0);
        due(p.open(0), 0);
        due(p.anchor(133, 59, 5, 5), 1);
        due(p.hintOf(0, 8), 4);
        due(p.moveAnchor(1, 134, 59), 1);
    }

    private static void promise5MoveAnchor() {
        part("promise 5");
        HintPlacer p = withAnchor();
        p.hint(0, 20, 10, RIGHT, 0);
        p.open(0);
        due(p.moveAnchor(0, 156, 110), 1);
        due(p.moveAnchor(0, 157, 110), 0);
        due(p.anchorOf(0, 0), 157);
        due(p.anchorOf(0, 1), 110);
        due(p.anchorOf(0, 2), 20);
        due(p.anchorOf(0, 3), 10);
        due(p.moveAnchor(0, 156, 111), 0);
        due(p.moveAnchor(0, -1000, 1000), 0);
        due(p.moveAnchor(0, 1000, -1000), 0);
        due(p.moveAnchor(0, 0, 0), 1);
        int[][] bad = {{1, 0, 0}, {-1, 0, 0}, {10, 0, 0}, {LOW, 0, 0}, {HIGH, 0, 0}, {0, 1001, 0}, {0, -1001, 0}, {0, 0, 1001},
            {0, 0, -1001}, {0, HIGH, 0}, {0, 0, LOW}};
        for (int[] one : bad) {
            due(p.moveAnchor(one[0], one[1], one[2]), INVALID);
        }
        due(p.anchorOf(0, 0), 0);
        due(p.settle(), 1);
        due(p.moveAnchor(0, 50, 50), 1);
        due(p.hintOf(0, 15), RIGHT);
    }

    private static void promise6AnchorOf() {
        part("promise 6");
        HintPlacer p = withAnchor();
        int[] want = {90, 50, 20, 10, 1, 0, 0};
        for (int what = 0; what < want.length; what++) {
            due(p.anchorOf(0, what), want[what]);
        }
        int[] edges = {7, -1, LOW, HIGH};
        for (int what : edges) {
            due(p.anchorOf(0, what), INVALID);
        }
        int[] none = {1, -1, 10, LOW, HIGH};
        for (int anchor : none) {
            due(p.anchorOf(anchor, 0), INVALID);
        }
        p.anchor(10, 10, 5, 5);
        p.hint(0, 20, 10, RIGHT, 0);
        p.hint(0, 20, 10, LEFT, 0);
        p.hint(1, 20, 10, BELOW, 0);
        p.open(1);
        p.open(2);
        due(p.anchorOf(0, 5), 2);
        due(p.anchorOf(0, 6), 1);
        due(p.anchorOf(1, 5), 1);
        due(p.anchorOf(1, 6), 1);
        p.alter(0, 0, 1);
        due(p.anchorOf(0, 5), 1);
        due(p.anchorOf(1, 5), 2);
        int[][] spots = {{-19, 0, 1}, {-20, 0, 0}, {199, 0, 1}, {200, 0, 0}, {0, -9, 1}, {0, -10, 0}, {0, 119, 1}, {0, 120, 0}};
        for (int[] spot : spots) {
            p.moveAnchor(0, spot[0], spot[1]);
            due(p.anchorOf(0, 4), spot[2]);
        }
    }

    private static void promise7Set() {
        part("promise 7");
        HintPlacer p = new HintPlacer();
        int[] first = {4, 6, 3, 1, 0};
        int[] low = {0, 0, 1, 0, 0};
        int[] high = {30, 20, 6, 1, 1};
        for (int what = 0; what < 5; what++) {
            due(p.set(what, low[what]), first[what]);
            due(p.set(what, high[what]), low[what]);
            due(p.set(what, low[what] - 1), INVALID);
            due(p.set(what, high[what] + 1), INVALID);
            due(p.set(what, LOW), INVALID);
            due(p.set(what, HIGH), INVALID);
            due(p.count(11 + what), high[what]);
            due(p.set(what, high[what]), high[what]);
        }
        due(p.set(-1, 1), INVALID);
        due(p.set(5, 1), INVALID);
        due(p.set(LOW, 1), INVALID);
        due(p.set(HIGH, 1), INVALID);
        due(p.count(9), 5);
        settingsTakeEffect();
    }

    private static void settingsTakeEffect() {
        HintPlacer p = withAnchor();
        p.hint(0, 20, 10, RIGHT, 0);
        p.hint(0, 20, 10, LEFT, 0);
        p.open(0);
        p.open(1);
        due(p.count(7), 2);
        p.set(0, 10);
        due(p.hintOf(0, 10), 120);
        due(p.hintOf(1, 10), 60);
        p.set(2, 1);
        due(p.count(7), 1);
        due(p.hintOf(1, 8), 5);
    }

    private static void promise8Count() {
        part("promise 8");
        HintPlacer p = withAnchor();
        int[] bad = {-1, 18, LOW, HIGH};
        for (int what : bad) {
            due(p.count(what), INVALID);
        }
        p.anchor(10, 10, 5, 5);
        p.hint(0, 20, 10, RIGHT, 0);
        p.hint(0, 30, 11, LEFT, 0);
        p.hint(1, 50, 50, ABOVE, 0);
        p.open(0);
        p.open(1);
        p.open(2);
        p.settle();
        p.scroll(3, 4);
        p.view(210, 130);
        p.type('x');
        p.type('y');
        int[] want = {3, 4, 210, 130, 2, 3, 3, 2, 2, 5, 2, 4, 6, 3, 1, 0, 530, 2};
        for (int what = 0; what < want.length; what++) {
            due(p.count(what), want[what]);
        }
        p.close(0);
        int[] then = {3, 4, 210, 130, 2, 3, 2, 1, 1, 5, 2, 4, 6, 3, 1, 0, 330, 1};
        for (int what = 0; what < then.length; what++) {
            due(p.count(what), then[what]);
        }
    }

    private static void promise9Hint() {
        part("promise 9");
        HintPlacer p = withAnchor();
        p.anchor(0, 0, 5, 5);
        due(p.hint(1, 1, 200, 3, 2), 0);
        int[] want = {1, 1, 200, 3, 2, 0, 0, 0, 1};
        for (int what = 0; what < want.length; what++) {
            due(p.hintOf(0, what), want[what]);
        }
        due(p.hintOf(0, 15), NONE);
        due(p.hintOf(0, 16), NONE);
        int[][] bad = {{2, 1, 1, 0, 0}, {-1, 1, 1, 0, 0}, {0, 0, 1, 0, 0}, {0, 201, 1, 0, 0}, {0, 1, 0, 0, 0}, {0, 1, 201, 0, 0},
            {0, 1, 1, -1, 0}, {0, 1, 1, 4, 0}, {0, 1, 1, 0, -1}, {0, 1, 1, 0, 3}, {LOW, 1, 1, 0, 0}, {0, HIGH, 1, 0, 0},
            {0, 1, LOW, 0, 0}, {0, 1, 1, HIGH, 0}, {0, 1, 1, 0, LOW}};
        for (int[] one : bad) {
            due(p.hint(one[0], one[1], one[2], one[3], one[4]), INVALID);
        }
        due(p.count(5), 1);
        for (int number = 1; number < 12; number++) {
            due(p.hint(0, 200, 1, 0, 0), number);
        }
        due(p.hint(0, 1, 1, 0, 0), LIMIT);
        due(p.hint(2, 1, 1, 0, 0), INVALID);
        due(p.hint(0, 1, 1, 0, 3), INVALID);
        due(p.count(5), 12);
        due(new HintPlacer().hint(0, 1, 1, 0, 0), INVALID);
        addedAgainIsNew();
    }

    /** Nothing of a hint that undo took away may stay for the next one of its number. */
    private static void addedAgainIsNew() {
        HintPlacer p = withAnchor();
        p.hint(0, 10, 10, 0, 0);
        p.alter(0, 5, 2);
        p.open(0);
        p.settle();
        p.undo();
        p.undo();
        p.undo();
        due(p.undo(), 1);
        due(p.count(5), 0);
        due(p.hint(0, 10, 10, 0, 0), 0);
        due(p.hintOf(0, 5), 0);
        due(p.hintOf(0, 8), 1);
        due(p.hintOf(0, 15), NONE);
        due(p.count(6), 0);
        due(p.count(8), 0);
    }

    private static void promise10Alter() {
        part("promise 10");
        HintPlacer p = withAnchor();
        p.anchor(10, 10, 5, 5);
        p.hint(0, 20, 10, RIGHT, 1);
        int[] first = {0, 20, 10, 1, 1, 0, 0, 0};
        int[] low = {0, 1, 1, 0, 0, 0, 0, 0};
        int[] high = {1, 200, 200, 3, 2, 2, 1, 9};
        for (int what = 0; what < 8; what++) {
            due(p.alter(0, what, high[what]), first[what]);
            due(p.alter(0, what, low[what]), high[what]);
            due(p.hintOf(0, what), low[what]);
            due(p.alter(0, what, low[what] - 1), INVALID);
            due(p.alter(0, what, high[what] + 1), INVALID);
            due(p.alter(0, what, LOW), INVALID);
            due(p.alter(0, what, HIGH), INVALID);
            due(p.alter(0, what, first[what]), low[what]);
        }
        due(p.alter(0, 8, 0), INVALID);
        due(p.alter(0, -1, 0), INVALID);
        due(p.alter(0, HIGH, 0), INVALID);
        due(p.alter(1, 0, 0), INVALID);
        due(p.alter(-1, 0, 0), INVALID);
        due(p.alter(12, 0, 0), INVALID);
        due(p.alter(LOW, 0, 0), INVALID);
        alterForgets();
    }

    private static void alterForgets() {
        HintPlacer p = withAnchor();
        p.hint(0, 20, 10, RIGHT, 1);
        p.open(0);
        int[] same = {0, 20, 10, RIGHT, 1, 0, 0, 0};
        for (int what = 0; what < 8; what++) {
            int remembered = p.count(8);
            due(p.settle(), 1 - remembered);
            due(p.hintOf(0, 15), RIGHT);
            due(p.alter(0, what, same[what]), same[what]);
            due(p.hintOf(0, 15), what == 0 || what == 3 ? NONE : RIGHT);
        }
        due(p.alter(0, 0, 1), INVALID);
        due(p.hintOf(0, 15), RIGHT);
    }

    private static void promise11Open() {
        part("promise 11");
        HintPlacer p = withAnchor();
        p.anchor(300, 0, 5, 5);
        p.hint(0, 20, 10, RIGHT, 0);
        p.hint(1, 20, 10, RIGHT, 0);
        p.hint(0, 90, 10, RIGHT, 0);
        p.hint(0, 86, 10, RIGHT, 0);
        due(p.open(0), 0);
        due(p.open(0), IMPOSSIBLE);
        due(p.open(1), 2);
        due(p.open(1), IMPOSSIBLE);
        due(p.open(2), 3);
        due(p.open(3), 4);
        due(p.set(2, 1), 3);
        due(p.close(3), 1);
        due(p.open(3), 5);
        int[] none = {4, -1, 12, LOW, HIGH};
        for (int hint : none) {
            due(p.open(hint), INVALID);
        }
        due(p.count(6), 4);
        openPushesAway();
    }

    /** A hint of a higher priority that is opened later goes first. */
    private static void openPushesAway() {
        HintPlacer p = withAnchor();
        p.hint(0, 20, 10, RIGHT, 0);
        p.hint(0, 20, 10, RIGHT, 0);
        p.alter(1, 7, 1);
        due(p.open(0), 0);
        due(p.open(1), 0);
        due(p.hintOf(0, 8), 4);
        due(p.hintOf(0, 16), 1);
    }

    private static void promise12Close() {
        part("promise 12");
        HintPlacer p = withAnchor();
        p.hint(0, 20, 10, RIGHT, 0);
        p.hint(0, 20, 10, RIGHT, 0);
        p.hint(0, 20, 10, LEFT, 0);
        due(p.close(0), IMPOSSIBLE);
        int[] none = {3, -1, 12, LOW, HIGH};
        for (int hint : none) {
            due(p.close(hint), INVALID);
        }
        p.open(0);
        p.open(1);
        p.open(2);
        p.settle();
        due(p.count(8), 2);
        due(p.hintOf(1, 8), 4);
        due(p.close(0), 2);
        due(p.hintOf(0, 8), 1);
        due(p.hintOf(1, 8), 0);
        due(p.hintOf(0, 15), NONE);
        due(p.hintOf(2, 15), LEFT);
        due(p.close(0), IMPOSSIBLE);
        due(p.close(1), 1);
        due(p.close(2), 0);
        due(p.count(6), 0);
        due(p.count(8), 0);
        p.open(2);
        p.open(0);
        due(p.hintOf(2, 16), 0);
        due(p.hintOf(0, 16), 1);
        p.close(2);
        p.open(2);
        due(p.hintOf(2, 16), 1);
    }

    private static void promise13Settle() {
        part("promise 13");
        HintPlacer p = withAnchor();
        due(p.settle(), 0);
        due(p.count(9), 2);
        p.hint(0, 20, 10, RIGHT, 0);
        p.alter(0, 5, 1);
        p.hint(0, 90, 90, LEFT, 0);
        p.open(0);
        p.open(1);
        due(p.settle(), 1);
        due(p.settle(), 0);
        due(p.hintOf(0, 15), RIGHT);
        due(p.hintOf(1, 15), NONE);
        p.view(120, 120);
        due(p.hintOf(0, 9), LEFT);
        due(p.hintOf(0, 15), RIGHT);
        due(p.settle(), 1);
        due(p.hintOf(0, 15), LEFT);
        p.view(200, 120);
        due(p.hintOf(0, 9), LEFT);
        p.set(3, 0);
        due(p.hintOf(0, 9), RIGHT);
        due(p.hintOf(0, 15), LEFT);
        due(p.settle(), 1);
        due(p.hintOf(0, 15), RIGHT);
        p.scroll(120, 0);
        due(p.hintOf(0, 8), 2);
        due(p.settle(), 0);
        due(p.hintOf(0, 15), RIGHT);
    }

    private static void promise14HintOf() {
        part("promise 14");
        HintPlacer p = withAnchor();
        p.hint(0, 31, 11, BELOW, 1);
        p.alter(0, 5, 2);
        p.alter(0, 6, 1);
        p.alter(0, 7, 5);
        int[] closed = {0, 31, 11, 2, 1, 2, 1, 5, 1, NONE, NONE, NONE, NONE, NONE, NONE, NONE, NONE};
        for (int what = 0; what < closed.length; what++) {
            due(p.hintOf(0, what), closed[what]);
        }
        p.open(0);
        p.settle();
        int[] shown = {0, 31, 11, 2, 1, 2, 1, 5, 0, 2, 84, 64, 16, 1, 0, 2, 0};
        for (int what = 0; what < shown.length; what++) {
            due(p.hintOf(0, what), shown[what]);
        }
        int[] bad = {-1, 17, LOW, HIGH};
        for (int what : bad) {
            due(p.hintOf(0, what), INVALID);
        }
        int[] none = {1, -1, 12, LOW, HIGH};
        for (int hint : none) {
            due(p.hintOf(hint, 0), INVALID);
        }
        p.scroll(300, 0);
        int[] waiting = {0, 31, 11, 2, 1, 2, 1, 5, 2, NONE, NONE, NONE, NONE, NONE, NONE, 2, 0};
        for (int what = 0; what < waiting.length; what++) {
            due(p.hintOf(0, what), waiting[what]);
        }
        turns();
    }

    private static void turns() {
        HintPlacer p = withAnchor();
        for (int hint = 0; hint < 5; hint++) {
            p.hint(0, 10, 10, 0, 0);
        }
        p.alter(3, 7, 9);
        p.alter(1, 7, 4);
        int[] opened = {4, 3, 0, 1};
        for (int hint : opened) {
            p.open(hint);
        }
        int[] want = {3, 1, NONE, 0, 2};
        for (int hint = 0; hint < want.length; hint++) {
            due(p.hintOf(hint, 16), want[hint]);
        }
    }

    private static void promise15Room() {
        part("promise 15");
        HintPlacer p = withAnchor();
        p.hint(0, 10, 10, 0, 0);
        due(p.room(0, ABOVE), 46);
        due(p.room(0, RIGHT), 86);
        due(p.room(0, BELOW), 56);
        due(p.room(0, LEFT), 86);
        p.scroll(7, 5);
        p.view(210, 140);
        p.set(0, 30);
        due(p.room(0, ABOVE), 15);
        due(p.room(0, RIGHT), 77);
        due(p.room(0, BELOW), 55);
        due(p.room(0, LEFT), 53);
        p.moveAnchor(0, 0, 0);
        due(p.room(0, ABOVE), -35);
        due(p.room(0, LEFT), -37);
        p.moveAnchor(0, 1000, 1000);
        due(p.room(0, RIGHT), -833);
        due(p.room(0, BELOW), -895);
        due(p.room(0, -1), INVALID);
        due(p.room(0, 4), INVALID);
        due(p.room(0, LOW), INVALID);
        due(p.room(0, HIGH), INVALID);
        due(p.room(1, 0), INVALID);
        due(p.room(-1, 0), INVALID);
        due(p.room(HIGH, 0), INVALID);
    }

    private static void promise16IfOn() {
        part("promise 16");
        HintPlacer p = withAnchor();
        p.hint(0, 40, 30, 0, 0);
        int[][] want = {{1, 90, 16, 0, 10}, {1, 114, 50, 0, 5}, {1, 90, 64, 0, 10}, {1, 46, 50, 0, 5}};
        for (int side = 0; side < 4; side++) {
            for (int what = 0; what < 5; what++) {
                due(p.ifOn(0, side, what), want[side][what]);
            }
        }
        due(p.ifOn(0, 0, 5), INVALID);
        due(p.ifOn(0, 0, -1), INVALID);
        due(p.ifOn(0, 4, 0), INVALID);
        due(p.ifOn(0, -1, 0), INVALID);
        due(p.ifOn(1, 0, 0), INVALID);
        due(p.ifOn(-1, 0, 0), INVALID);
        due(p.ifOn(LOW, LOW, LOW), INVALID);
        due(p.ifOn(0, HIGH, 0), INVALID);
        due(p.ifOn(0, 0, HIGH), INVALID);
        othersDoNotMatterForIfOn();
    }

    private static void othersDoNotMatterForIfOn() {
        HintPlacer p = withAnchor();
        p.anchor(100, 20, 30, 30);
        p.set(4, 1);
        p.hint(0, 20, 10, LEFT, 0);
        p.hint(0, 20, 10, LEFT, 0);
        p.open(0);
        due(p.open(1), 4);
        due(p.ifOn(1, LEFT, 0), 1);
        due(p.ifOn(1, ABOVE, 0), 1);
        p.scroll(113, 0);
        due(p.anchorOf(0, 4), 0);
        due(p.ifOn(1, RIGHT, 0), 1);
        due(p.ifOn(1, LEFT, 0), 0);
    }

    private static void promise17At() {
        part("promise 17");
        HintPlacer p = withAnchor();
        p.hint(0, 20, 10, LEFT, 0);
        p.hint(0, 20, 10, RIGHT, 0);
        p.open(1);
        due(p.at(66, 50), NONE);
        p.open(0);
        int[][] want = {{66, 50, 0}, {85, 59, 0}, {65, 50, NONE}, {86, 50, NONE}, {66, 49, NONE}, {66, 60, NONE}, {114, 50, 1},
            {133, 59, 1}, {134, 59, NONE}, {113, 50, NONE}, {95, 55, NONE}, {3000, -3000, NONE}, {-3000, 3000, NONE},
            {3001, 0, INVALID}, {-3001, 0, INVALID}, {0, 3001, INVALID}, {0, -3001, INVALID}, {LOW, 0, INVALID},
            {0, HIGH, INVALID}};
        for (int[] one : want) {
            due(p.at(one[0], one[1]), one[2]);
        }
        p.undo();
        due(p.at(66, 50), NONE);
        due(p.at(114, 50), 1);
    }

    private static void promise18SizeFor() {
        part("promise 18");
        HintPlacer p = withAnchor();
        p.hint(0, 40, 30, RIGHT, 0);
        due(p.sizeFor(0, 0), 154);
        due(p.sizeFor(0, 1), 80);
        p.alter(0, 5, 1);
        due(p.sizeFor(0, 0), 86);
        p.alter(0, 5, 2);
        due(p.sizeFor(0, 0), 86);
        due(p.sizeFor(0, 1), 46);
        p.alter(0, 4, 2);
        due(p.sizeFor(0, 1), 46);
        p.alter(0, 5, 0);
        due(p.sizeFor(0, 1), 60);
        p.view(153, 120);
        due(p.sizeFor(0, 0), 154);
        due(p.sizeFor(0, 1), NONE);
        int[][] bad = {{1, 0}, {-1, 0}, {12, 0}, {0, 2}, {0, -1}, {LOW, 0}, {HIGH, 0}, {0, LOW}, {0, HIGH}};
        for (int[] one : bad) {
            due(p.sizeFor(one[0], one[1]), INVALID);
        }
        sizeForEdges();
        sizeForRemembered();
        sizeForShift();
    }

    private static void sizeForEdges() {
        HintPlacer p = new HintPlacer();
        p.anchor(-5, 0, 1, 1);
        p.hint(0, 4, 4, RIGHT, 0);
        due(p.anchorOf(0, 4), 0);
        due(p.sizeFor(0, 0), 20);
        due(p.sizeFor(0, 1), 20);
        p.moveAnchor(0, 391, 0);
        due(p.sizeFor(0, 0), 400);
        p.moveAnchor(0, 392, 0);
        due(p.sizeFor(0, 0), NONE);
        p.moveAnchor(0, -6, 0);
        due(p.sizeFor(0, 0), NONE);
    }

    private static void sizeForRemembered() {
        HintPlacer p = withAnchor();
        p.hint(0, 40, 30, RIGHT, 0);
        p.alter(0, 5, 1);
        p.open(0);
        p.view(120, 120);
        due(p.settle(), 1);
        p.alter(0, 5, 0);
        due(p.hintOf(0, 15), LEFT);
        due(p.sizeFor(0, 0), 86);
        p.set(3, 0);
        due(p.sizeFor(0, 0), 154);
    }

    private static void sizeForShift() {
        HintPlacer p = withAnchor();
        p.hint(0, 60, 10, ABOVE, 0);
        due(p.sizeFor(0, 0), 150);
        p.alter(0, 6, 1);
        due(p.sizeFor(0, 0), 107);
        p.set(1, 0);
        due(p.sizeFor(0, 0), 101);
        p.alter(0, 1, 12);
        p.set(1, 10);
        due(p.sizeFor(0, 0), 20);
    }

    private static void promise19Undo() {
        part("promise 19");
        HintPlacer p = new HintPlacer();
        due(p.undo(), IMPOSSIBLE);
        p.anchor(90, 50, 20, 10);
        p.view(210, 130);
        due(p.count(9), 2);
        due(p.undo(), 1);
        due(p.count(2), 200);
        due(p.count(4), 1);
        due(p.undo(), 0);
        due(p.count(4), 0);
        due(p.undo(), IMPOSSIBLE);
        for (int width = 101; width <= 107; width++) {
            p.view(width, 100);
        }
        due(p.count(9), 5);
        for (int left = 4; left >= 0; left--) {
            due(p.undo(), left);
            due(p.count(2), 102 + left);
        }
        due(p.undo(), IMPOSSIBLE);
        due(p.count(2), 102);
        undoEachChange();
        undoKeepsText();
        undoAfterDrop();
    }

    /** Each kind of change records the state before it, and undo brings back what it changed. */
    private static void undoEachChange() {
        for (int change = 0; change < 11; change++) {
            part("promise 19, change " + change);
            HintPlacer p = withAnchor();
            p.hint(0, 20, 10, RIGHT, 0);
            p.hint(0, 20, 10, RIGHT, 0);
            p.open(0);
            String before = tell(p);
            due(p.count(9), 4);
            doChange(p, change);
            due(p.count(9), 5);
            due(tell(p).equals(before) ? 1 : 0, 0);
            due(p.undo(), 4);
            due(tell(p).equals(before) ? 1 : 0, 1);
        }
        part("promise 19");
    }

    private static void doChange(HintPlacer p, int change) {
        switch (change) {
            case 0: p.view(220, 130); break;
            case 1: p.scroll(3, 4); break;
            case 2: p.anchor(1, 2, 3, 4); break;
            case 3: p.moveAnchor(0, 60, 60); break;
            case 4: p.hint(0, 1, 2, 3, 0); break;
            case 5: p.alter(0, 3, LEFT); break;
            case 6: p.open(1); break;
            case 7: p.close(0); break;
            case 8: p.set(0, 7); break;
            case 9: p.settle(); break;
            default: write(p, "c0;v1,1;"); p.carry(); p.clearText();
        }
    }

    private static String tell(HintPlacer p) {
        StringBuilder all = new StringBuilder();
        for (int what = 0; what <= 17; what++) {
            all.append(' ').append(what == 9 ? 0 : p.count(what));
        }
        for (int what = 0; what <= 16; what++) {
            all.append(' ').append(p.hintOf(0, what)).append(' ').append(p.hintOf(1, what));
        }
        for (int what = 0; what <= 6; what++) {
            all.append(' ').append(p.anchorOf(0, what));
        }
        return all.toString();
    }

    private static void undoKeepsText() {
        HintPlacer p = withAnchor();
        write(p, "t;");
        p.view(100, 100);
        p.type('t');
        due(p.undo(), 1);
        due(p.count(10), 3);
        due(p.fault(0), 2);
        p.clearText();
        due(p.undo(), 0);
        due(p.count(10), 0);
    }

    private static void undoAfterDrop() {
        HintPlacer p = new HintPlacer();
        for (int round = 0; round < 7; round++) {
            for (int width = 50; width < 58; width++) {
                p.view(width + round, 100);
            }
            due(p.undo(), 4);
            due(p.count(2), 56 + round);
            due(p.undo(), 3);
            due(p.count(2), 55 + round);
            p.view(300, 100);
            due(p.undo(), 3);
            due(p.count(2), 55 + round);
        }
    }

    private static void promise20Type() {
        part("promise 20");
        HintPlacer p = new HintPlacer();
        int[] bad = {31, 127, 0, -1, 200, LOW, HIGH};
        for (int character : bad) {
            due(p.type(character), INVALID);
        }
        due(p.count(10), 0);
        due(p.type(32), 1);
        due(p.type(126), 2);
        for (int length = 3; length <= 60; length++) {
            due(p.type('a'), length);
        }
        due(p.type('a'), LIMIT);
        due(p.type(31), INVALID);
        due(p.count(10), 60);
        due(p.count(9), 0);
    }

    private static void promise21ClearText() {
        part("promise 21");
        HintPlacer p = new HintPlacer();
        due(p.clearText(), 0);
        write(p, "abc");
        due(p.clearText(), 3);
        due(p.clearText(), 0);
        due(p.count(10), 0);
        due(p.fault(0), NONE);
        due(p.type('t'), 1);
        due(p.fault(0), 0);
        due(p.type(';'), 2);
        due(p.fault(0), NONE);
        due(p.count(9), 0);
    }

    /** None of the orders of the tests is possible here: the view is at its end, and the hint is closed. */
    private static HintPlacer atEndWithHint() {
        HintPlacer p = withAnchor();
        p.scroll(1000, 0);
        p.scroll(1000, 0);
        p.hint(0, 10, 10, 0, 0);
        return p;
    }

    /** A new object for each text: after 512 calls its answers are free. */
    private static void dueFault(String text, int position, int reason) {
        HintPlacer p = atEndWithHint();
        write(p, text);
        String before = part;
        part = before + " \"" + text + "\"";
        due(p.fault(0), position);
        due(p.fault(1), reason);
        due(p.carry(), reason == NONE ? 0 : IMPOSSIBLE);
        part = before;
    }

    private static void promise22Fault() {
        part("promise 22");
        HintPlacer p = atEndWithHint();
        int[] bad = {-1, 2, LOW, HIGH};
        for (int what : bad) {
            due(p.fault(what), INVALID);
        }
        due(p.fault(0), NONE);
        due(p.fault(1), NONE);
        String[] good = {"", "c0;", "c00;", "v1,1;", "v001,-000;", "v999,999;", "c0;o0;t;v-1,-999;"};
        for (String text : good) {
            dueFault(text, NONE, NONE);
        }
        String[] badForm = {";", "o", "o0", "o;", "o000;", "o-1;", "o 0;", " o0;", "O0;", "0;", "oo0;", "o0 ;", "c", "c0", "c;",
            "t", "t0;", "tt;", "t ;", "v", "v;", "v1;", "v1,;", "v,1;", "v1,1", "v1,1,1;", "v1000,1;", "v1,1000;", "v--1,1;",
            "v+1,1;", "v-,1;", "v1,-;", "v1 ,1;", "v1;1;", "x;", "~", "o99", "o1:", "o/;", "v1.1;"};
        for (String text : badForm) {
            dueFault(text, 0, 1);
            dueFault("t;" + text, 2, 1);
            dueFault("c0;v-10,5;t;" + text, 12, 1);
        }
        String[] noHint = {"o1;", "c1;", "o01;", "o12;", "c99;"};
        for (String text : noHint) {
            dueFault(text, 0, 2);
            dueFault("o0;" + text, 3, 2);
            dueFault("o0;" + text + "x", 3, 2);
        }
        dueFault("x;o1;", 0, 1);
        dueFault("t;;o1;", 2, 1);
        dueFault("tttttttttttttttttttttttttttttttttttttttttttttttttttttttttttt", 0, 1);
        dueFault("t;t;t;t;t;t;t;t;t;t;t;t;t;t;t;t;t;t;t;t;t;t;t;t;t;t;t;t;t;t", 58, 1);
        write(p, "o1;");
        due(p.hint(0, 1, 1, 0, 0), 1);
        due(p.fault(0), NONE);
        due(p.undo() >= 0 ? 1 : 0, 1);
        due(p.fault(0), 0);
    }

    private static void promise23Carry() {
        part("promise 23");
        HintPlacer p = withAnchor();
        p.hint(0, 20, 10, RIGHT, 0);
        p.hint(0, 20, 10, LEFT, 0);
        write(p, "o0;o01;t;v10,-5;c0;");
        due(p.carry(), 5);
        due(p.count(10), 19);
        due(p.count(0), 10);
        due(p.count(1), -5);
        due(p.count(6), 1);
        due(p.count(7), 1);
        due(p.hintOf(1, 15), LEFT);
        due(p.hintOf(0, 15), NONE);
        due(p.count(9), 4);
        due(p.carry(), 1);
        due(p.count(6), 2);
        due(p.hintOf(0, 16), 1);
        due(p.count(9), 5);
        due(p.undo(), 4);
        due(p.count(6), 1);
        due(p.undo(), 3);
        due(p.count(0), 0);
        due(p.count(6), 0);
        due(p.count(10), 19);
        emptyCarry();
        carryStops();
        carrySettles();
    }

    private static void emptyCarry() {
        HintPlacer p = new HintPlacer();
        due(p.carry(), 0);
        due(p.count(9), 1);
        p.type('t');
        due(p.carry(), IMPOSSIBLE);
        due(p.count(9), 1);
        p.type(';');
        due(p.carry(), 1);
        due(p.count(9), 2);
        write(p, "t;t;t;t;t;t;t;t;t;t;t;t;t;t;t;t;t;t;t;t;t;t;t;t;t;t;t;t;t;t;");
        due(p.carry(), 30);
        due(p.count(9), 3);
    }

    private static void carryStops() {
        HintPlacer p = withAnchor();
        p.hint(0, 20, 10, RIGHT, 0);
        write(p, "c0;o0;");
        due(p.carry(), 0);
        due(p.count(6), 0);
        due(p.count(9), 3);
        write(p, "o0;o0;v1,1;");
        due(p.carry(), 1);
        due(p.count(6), 1);
        due(p.count(7), 1);
        due(p.count(0), 0);
        write(p, "v999,0;v999,0;v2,-1;v1,0;t;");
        due(p.carry(), 3);
        due(p.count(0), 2000);
        due(p.count(1), -1);
        due(p.count(7), 0);
        write(p, "v0,-999;v0,-999;v0,-1;v0,-1;");
        due(p.carry(), 3);
        due(p.count(1), -2000);
        write(p, "v-999,999;v-999,999;v-999,999;v-999,999;v-4,4;v-1,0;");
        due(p.carry(), 5);
        due(p.count(0), -2000);
        due(p.count(1), 2000);
        write(p, "v0,1;");
        due(p.carry(), 0);
        due(p.count(9), 5);
    }

    /** To settle within orders goes by what is shown there, not by what was shown before them. */
    private static void carrySettles() {
        HintPlacer p = withAnchor();
        p.hint(0, 20, 10, RIGHT, 0);
        p.alter(0, 5, 1);
        write(p, "o0;v-80,0;t;v80,0;");
        due(p.carry(), 4);
        due(p.hintOf(0, 15), LEFT);
        due(p.hintOf(0, 9), LEFT);
    }

    /** All alignments on all sides; half of a negative difference is rounded down. */
    private static void termsPlaces() {
        part("terms, places");
        HintPlacer p = new HintPlacer();
        p.view(400, 400);
        p.anchor(150, 160, 21, 11);
        p.hint(0, 30, 40, 0, 0);
        int[] x = {150, 145, 141};
        int[] y = {160, 145, 131};
        for (int alignment = 0; alignment < 3; alignment++) {
            p.alter(0, 4, alignment);
            due(p.ifOn(0, ABOVE, 1), x[alignment]);
            due(p.ifOn(0, ABOVE, 2), 116);
            due(p.ifOn(0, ABOVE, 4), 160 - x[alignment]);
            due(p.ifOn(0, BELOW, 1), x[alignment]);
            due(p.ifOn(0, BELOW, 2), 175);
            due(p.ifOn(0, RIGHT, 1), 175);
            due(p.ifOn(0, RIGHT, 2), y[alignment]);
            due(p.ifOn(0, RIGHT, 4), 165 - y[alignment]);
            due(p.ifOn(0, LEFT, 1), 116);
            due(p.ifOn(0, LEFT, 2), y[alignment]);
        }
        p.alter(0, 4, 0);
        p.alter(0, 3, ABOVE);
        p.open(0);
        int[][] arrows = {{10, 1}, {11, 0}, {9, 1}};
        for (int[] arrow : arrows) {
            p.set(1, arrow[0]);
            due(p.hintOf(0, 12), 10);
            due(p.hintOf(0, 13), arrow[1]);
        }
        int[][] widths = {{20, 1}, {19, 0}, {21, 1}};
        for (int[] width : widths) {
            p.alter(0, 1, width[0]);
            due(p.hintOf(0, 13), width[1]);
        }
    }

    private static void termsShifts() {
        part("terms, shifts");
        HintPlacer p = withAnchor();
        p.hint(0, 60, 10, ABOVE, 1);
        p.alter(0, 6, 1);
        p.open(0);
        dueShown(p, 0, ABOVE, 70, 36, 30, 1, 0);
        p.scroll(71, 0);
        dueShown(p, 0, ABOVE, 71, 36, 29, 1, 1);
        p.scroll(23, 0);
        dueShown(p, 0, ABOVE, 94, 36, 6, 1, 24);
        p.scroll(1, 0);
        dueWaiting(p, 0, 3);
        due(p.ifOn(0, ABOVE, 3), 24);
        due(p.ifOn(0, ABOVE, 1), 94);
        due(p.ifOn(0, ABOVE, 4), 6);
        p.scroll(-95, 0);
        p.view(129, 120);
        dueShown(p, 0, ABOVE, 69, 36, 31, 1, -1);
        p.view(107, 120);
        dueShown(p, 0, ABOVE, 47, 36, 53, 1, -23);
        p.view(106, 120);
        dueWaiting(p, 0, 3);
        due(p.ifOn(0, BELOW, 3), -23);
        due(p.ifOn(0, BELOW, 1), 47);
        p.alter(0, 6, 0);
        due(p.ifOn(0, BELOW, 3), 0);
        shiftOfBadArrow();
        shiftDown();
        longHintStays();
    }

    /** The arrow is not good before, so that it may go anywhere. */
    private static void shiftOfBadArrow() {
        HintPlacer p = withAnchor();
        p.hint(0, 60, 10, BELOW, 0);
        p.alter(0, 6, 1);
        p.set(1, 11);
        p.open(0);
        dueShown(p, 0, BELOW, 90, 64, 10, 0, 0);
        p.scroll(105, 0);
        dueShown(p, 0, BELOW, 105, 64, -5, 0, 15);
        p.scroll(-105, 0);
        p.view(95, 120);
        dueShown(p, 0, BELOW, 35, 64, 65, 0, -55);
        p.view(130, 120);
        dueShown(p, 0, BELOW, 70, 64, 30, 1, -20);
    }

    private static void shiftDown() {
        HintPlacer p = withAnchor();
        p.hint(0, 10, 40, LEFT, 1);
        p.alter(0, 6, 1);
        p.open(0);
        dueShown(p, 0, LEFT, 76, 35, 20, 1, 0);
        p.scroll(0, 49);
        dueShown(p, 0, LEFT, 76, 49, 6, 1, 14);
        p.scroll(0, 1);
        dueWaiting(p, 0, 3);
        due(p.ifOn(0, RIGHT, 3), 14);
        p.scroll(0, -50);
        p.view(200, 62);
        dueShown(p, 0, LEFT, 76, 22, 33, 1, -13);
        p.view(200, 61);
        dueWaiting(p, 0, 3);
        due(p.ifOn(0, LEFT, 2), 22);
    }

    private static void longHintStays() {
        HintPlacer p = withAnchor();
        p.hint(0, 120, 10, ABOVE, 0);
        p.alter(0, 6, 1);
        p.set(1, 0);
        p.view(120, 120);
        due(p.ifOn(0, ABOVE, 3), -90);
        due(p.ifOn(0, ABOVE, 0), 1);
        p.view(119, 120);
        due(p.ifOn(0, ABOVE, 3), 0);
        due(p.ifOn(0, ABOVE, 0), 0);
    }

    private static void termsTries() {
        part("terms, tries");
        // Above there is no room, so that the place of a hint tells which side was tried next.
        HintPlacer p = new HintPlacer();
        p.anchor(90, 5, 20, 10);
        p.hint(0, 20, 10, ABOVE, 0);
        due(p.open(0), 3);
        p.alter(0, 5, 1);
        due(p.hintOf(0, 9), BELOW);
        p.view(200, 28);
        due(p.hintOf(0, 8), 3);
        p.alter(0, 5, 2);
        due(p.hintOf(0, 9), RIGHT);
        p.view(133, 28);
        due(p.hintOf(0, 9), LEFT);
        p.view(400, 400);
        due(p.hintOf(0, 9), BELOW);
        triesOfEachSide();
        rememberedFirst();
    }

    /** With the flip 2 each hint of the anchor takes the next side that is free. */
    private static void triesOfEachSide() {
        int[][] orders = {{0, 2, 1, 3}, {1, 3, 2, 0}, {2, 0, 3, 1}, {3, 1, 0, 2}};
        for (int own = 0; own < 4; own++) {
            HintPlacer p = withAnchor();
            p.set(2, 6);
            for (int hint = 0; hint < 5; hint++) {
                p.hint(0, 20, 10, own, 0);
                p.alter(hint, 5, 2);
                due(p.open(hint), hint < 4 ? 0 : 4);
            }
            for (int hint = 0; hint < 4; hint++) {
                due(p.hintOf(hint, 9), orders[own][hint]);
            }
            p.alter(1, 5, 1);
            due(p.hintOf(1, 9), orders[own][1]);
            p.alter(1, 5, 0);
            due(p.hintOf(1, 8), 4);
            due(p.hintOf(2, 9), orders[own][1]);
        }
    }

    private static void rememberedFirst() {
        HintPlacer p = withAnchor();
        p.hint(0, 20, 10, RIGHT, 0);
        p.alter(0, 5, 2);
        p.open(0);
        p.view(133, 120);
        due(p.settle(), 1);
        due(p.hintOf(0, 15), LEFT);
        p.alter(0, 5, 0);
        due(p.hintOf(0, 9), LEFT);
        p.view(200, 120);
        due(p.hintOf(0, 9), LEFT);
        p.scroll(80, 0);
        due(p.hintOf(0, 9), RIGHT);
        due(p.hintOf(0, 15), LEFT);
        p.scroll(-80, 0);
        due(p.hintOf(0, 9), LEFT);
        p.set(3, 0);
        due(p.hintOf(0, 9), RIGHT);
        p.set(3, 1);
        due(p.hintOf(0, 9), LEFT);
        p.close(0);
        p.open(0);
        due(p.hintOf(0, 9), RIGHT);
    }

    private static void termsReasons() {
        part("terms, reasons");
        HintPlacer p = withAnchor();
        p.anchor(300, 50, 20, 10);
        p.hint(0, 20, 10, RIGHT, 0);
        p.hint(1, 20, 10, LEFT, 0);
        p.hint(0, 90, 10, RIGHT, 0);
        p.hint(0, 20, 10, RIGHT, 0);
        p.hint(0, 90, 10, RIGHT, 0);
        p.alter(4, 5, 2);
        due(p.hintOf(0, 8), 1);
        due(p.open(0), 0);
        due(p.open(1), 2);
        due(p.open(2), 3);
        due(p.open(3), 4);
        due(p.open(4), 0);
        due(p.hintOf(4, 9), BELOW);
        p.set(2, 1);
        dueWaiting(p, 1, 2);
        dueWaiting(p, 2, 5);
        dueWaiting(p, 3, 5);
        dueWaiting(p, 4, 5);
        touchingIsFree();
        anchorsInTheWay();
        farAnchorInTheWay();
    }

    private static void touchingIsFree() {
        HintPlacer p = withAnchor();
        p.anchor(134, 80, 5, 5);
        p.set(0, 0);
        p.hint(0, 24, 30, RIGHT, 0);
        p.hint(1, 10, 10, ABOVE, 0);
        p.open(0);
        due(p.open(1), 0);
        due(p.count(16), 820);
        due(p.moveAnchor(1, 133, 80), 1);
        due(p.hintOf(1, 8), 4);
        due(p.moveAnchor(1, 133, 90), 2);
        due(p.moveAnchor(1, 133, 89), 1);
    }

    private static void anchorsInTheWay() {
        HintPlacer p = withAnchor();
        p.anchor(120, 40, 10, 10);
        p.hint(0, 20, 10, RIGHT, 0);
        p.set(4, 1);
        due(p.open(0), 0);
        due(p.moveAnchor(1, 120, 41), 0);
        due(p.hintOf(0, 8), 4);
        due(p.alter(0, 5, 1), 0);
        due(p.hintOf(0, 9), LEFT);
        due(p.alter(0, 5, 0), 1);
        due(p.hintOf(0, 8), 4);
        due(p.set(4, 0), 1);
        due(p.hintOf(0, 9), RIGHT);
    }

    /** With the gap 0 a hint touches its own anchor, which is not in its way. */
    private static void farAnchorInTheWay() {
        HintPlacer p = withAnchor();
        p.set(4, 1);
        p.set(0, 0);
        p.hint(0, 20, 10, RIGHT, 0);
        due(p.open(0), 0);
        p.alter(0, 3, ABOVE);
        due(p.hintOf(0, 8), 0);
        p.alter(0, 3, BELOW);
        due(p.hintOf(0, 8), 0);
        p.alter(0, 3, LEFT);
        due(p.hintOf(0, 8), 0);
    }

    private static void errorsChangeNothing() {
        part("errors");
        HintPlacer p = withAnchor();
        p.hint(0, 20, 10, RIGHT, 0);
        p.hint(0, 20, 10, LEFT, 0);
        p.open(0);
        write(p, "o9;");
        String before = tell(p);
        int states = p.count(9);
        due(p.view(19, 100), INVALID);
        due(p.scroll(0, 1001), INVALID);
        due(p.anchor(0, 0, 0, 0), INVALID);
        due(p.moveAnchor(0, 5, 1001), INVALID);
        due(p.set(2, 0), INVALID);
        due(p.hint(0, 0, 1, 0, 0), INVALID);
        due(p.alter(0, 3, 4), INVALID);
        due(p.open(0), IMPOSSIBLE);
        due(p.close(1), IMPOSSIBLE);
        due(p.carry(), IMPOSSIBLE);
        due(p.type(127), INVALID);
        due(p.count(9), states);
        due(tell(p).equals(before) ? 1 : 0, 1);
    }
}

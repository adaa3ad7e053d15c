/** Boundaries of promises 11 to 21: positions, sizes, lines, overflow, points and widths asked for. */
public final class AnswerEdgesTest extends Checks {
    public static void main(String[] args) {
        relativeToTheViewport();
        linesOfLeaves();
        linesOfRows();
        linesOfColumns();
        lineOfTheRoot();
        lineInARow();
        lineInAColumn();
        childrenThatJustFit();
        childrenToTheRightAndDownward();
        anyChildThatSticksOut();
        grandchildrenDoNotCount();
        hiddenChildrenDoNotCount();
        paddingWiderThanTheBox();
        textsThatJustFit();
        lessThanOneCharacter();
        leavesWithoutText();
        sidesOfABox();
        boxesWithoutSize();
        noBoxThere();
        theEndsOfInt();
        paintedLast();
        outsideItsParent();
        onlyAsManyLines();
        theSmallestOfSeveral();
        theFirstWidthOfAll();
        theLastWidthOfAll();
        noWidthAtAll();
        noLinesAsked();
        aHundredLinesAsked();
        theViewportStays();
        theHeightHasNoSay();
        fiveHundredTwelveCalls();
        DUE.end("AnswerEdgesTest");
    }

    /** "the position of a box, relative to the viewport", however deep it stands. */
    private static void relativeToTheViewport() {
        FlexibleBoxes f = tree(0, 0, 2, 3);
        all(f, PADDING, 3);
        f.set(1, WIDTH, 100);
        f.set(0, ALIGN, END);
        f.set(2, HEIGHT, 50);
        row("x", f::x, 0, 100, 103, 106);
        row("y", f::y, 594, 550, 553, 556);
        DUE.equal("x(0)", f.x(0), 0);
        DUE.equal("y(0)", f.y(0), 0);
    }

    /** "text lines of a leaf": none without text. */
    private static void linesOfLeaves() {
        FlexibleBoxes f = column(1, 16, 600);
        int[][] due = {{0, 0}, {1, 1}, {2, 1}, {3, 2}, {500, 250}};
        for (int[] pair : due) {
            f.set(1, TEXT, pair[0]);
            DUE.equal("lines(1) of " + pair[0], f.lines(1), pair[1]);
        }
        f.set(1, DIRECTION, COLUMN);
        f.set(1, WRAP, 1);
        DUE.equal("lines(1), DIRECTION and WRAP of a leaf have no say", f.lines(1), 250);
    }

    /** "lines of a row (0 without children)". */
    private static void linesOfRows() {
        FlexibleBoxes f = leaves(3, 100, 600);
        all(f, WIDTH, 60);
        DUE.equal("lines(0)", f.lines(0), 1);
        f.set(0, WRAP, 1);
        DUE.equal("lines(0) with WRAP", f.lines(0), 3);
        f.set(3, HIDDEN, 1);
        DUE.equal("lines(0), one hidden", f.lines(0), 2);
        f.set(1, HIDDEN, 1);
        DUE.equal("lines(0), two hidden", f.lines(0), 1);
        f.set(2, HIDDEN, 1);
        DUE.equal("lines(0), all hidden", f.lines(0), 0);
        f.set(0, WRAP, 0);
        DUE.equal("lines(0), all hidden, without WRAP", f.lines(0), 0);
    }

    /** "children of a column": those that are not hidden. */
    private static void linesOfColumns() {
        FlexibleBoxes f = column(39, 100, 600);
        DUE.equal("lines(0)", f.lines(0), 39);
        f.set(39, HIDDEN, 1);
        DUE.equal("lines(0), one hidden", f.lines(0), 38);
        all(f, HIDDEN, 1);
        DUE.equal("lines(0), all hidden", f.lines(0), 0);
    }

    /** "0 for the root". */
    private static void lineOfTheRoot() {
        FlexibleBoxes f = new FlexibleBoxes();
        DUE.equal("lineOf(0) of a root alone", f.lineOf(0), 0);
        f.add(0);
        f.set(0, DIRECTION, COLUMN);
        f.set(0, ORDER, 9);
        DUE.equal("lineOf(0)", f.lineOf(0), 0);
    }

    /** "a line of a row", from 0. */
    private static void lineInARow() {
        FlexibleBoxes f = leaves(3, 100, 600);
        all(f, WIDTH, 60);
        row("line without WRAP", f::lineOf, 0, 0, 0);
        f.set(0, WRAP, 1);
        row("line", f::lineOf, 0, 1, 2);
        f.set(1, ORDER, 1);
        row("line by ORDER", f::lineOf, 2, 0, 1);
        f.set(2, HIDDEN, 1);
        DUE.equal("lineOf(3) without the hidden one", f.lineOf(3), 0);
        DUE.equal("lineOf(1) without the hidden one", f.lineOf(1), 1);
    }

    /** "its index among the children of a column", in visual order. */
    private static void lineInAColumn() {
        FlexibleBoxes f = column(4, 100, 600);
        row("line", f::lineOf, 0, 1, 2, 3);
        f.set(4, ORDER, -9);
        row("line by ORDER", f::lineOf, 1, 2, 3, 0);
        f.set(1, HIDDEN, 1);
        DUE.equal("lineOf(2) without the hidden one", f.lineOf(2), 1);
        DUE.equal("lineOf(3) without the hidden one", f.lineOf(3), 2);
        f.remove(4);
        DUE.equal("lineOf(2) without the removed one", f.lineOf(2), 0);
    }

    private static FlexibleBoxes sized(int width, int height) {
        FlexibleBoxes f = leaves(1, 100, 80);
        f.set(0, ALIGN, START);
        f.set(1, SHRINK, 0);
        f.set(1, WIDTH, width);
        f.set(1, HEIGHT, height);
        return f;
    }

    /** "is greater than": a child that ends with the inner area does not exceed it. */
    private static void childrenThatJustFit() {
        FlexibleBoxes f = sized(100, 80);
        DUE.equal("overflow(0)", f.overflow(0), 0);
        f.set(1, WIDTH, 80);
        f.set(1, HEIGHT, 60);
        f.set(0, PADDING, 4);
        f.set(1, MARGIN, 6);
        DUE.equal("overflow(0) with padding and margin", f.overflow(0), 0);
    }

    /** "to the right (1)", "downward (2)"; "Returns the sum of the numbers of these directions". */
    private static void childrenToTheRightAndDownward() {
        DUE.equal("overflow(0), one to the right", sized(101, 80).overflow(0), 1);
        DUE.equal("overflow(0), one downward", sized(100, 81).overflow(0), 2);
        DUE.equal("overflow(0), one both ways", sized(101, 81).overflow(0), 3);
        FlexibleBoxes f = sized(80, 60);
        f.set(1, MARGIN, 10);
        DUE.equal("overflow(0) with margin", f.overflow(0), 0);
        f.set(1, WIDTH, 81);
        DUE.equal("overflow(0), the margin to the right", f.overflow(0), 1);
        f.set(1, WIDTH, 80);
        f.set(1, HEIGHT, 61);
        DUE.equal("overflow(0), the margin downward", f.overflow(0), 2);
        FlexibleBoxes g = sized(92, 72);
        g.set(0, PADDING, 4);
        DUE.equal("overflow(0) with padding", g.overflow(0), 0);
        g.set(1, WIDTH, 93);
        DUE.equal("overflow(0), into the padding to the right", g.overflow(0), 1);
        g.set(1, WIDTH, 92);
        g.set(1, HEIGHT, 73);
        DUE.equal("overflow(0), into the padding downward", g.overflow(0), 2);
    }

    /** "if for some child": the first, one between, or the last. */
    private static void anyChildThatSticksOut() {
        for (int high = 1; high <= 3; high++) {
            FlexibleBoxes f = leaves(3, 100, 80);
            all(f, HEIGHT, 10);
            f.set(high, HEIGHT, 81);
            DUE.equal("overflow(0), box " + high, f.overflow(0), 2);
            f.set(0, DIRECTION, COLUMN);
            f.set(high, HEIGHT, 10);
            f.set(high, WIDTH, 101);
            DUE.equal("overflow(0) of a column, box " + high, f.overflow(0), 1);
        }
    }

    /** Only children count, not what sticks out of them. */
    private static void grandchildrenDoNotCount() {
        FlexibleBoxes f = tree(0, 1);
        f.set(1, WIDTH, 10);
        f.set(1, HEIGHT, 10);
        f.set(2, WIDTH, 1000);
        f.set(2, HEIGHT, 1000);
        f.set(2, SHRINK, 0);
        DUE.equal("overflow(0)", f.overflow(0), 0);
        DUE.equal("overflow(1)", f.overflow(1), 3);
        DUE.equal("overflow(2)", f.overflow(2), 0);
    }

    private static void hiddenChildrenDoNotCount() {
        FlexibleBoxes f = sized(101, 81);
        f.set(1, HIDDEN, 1);
        DUE.equal("overflow(0)", f.overflow(0), 0);
        f.viewport(0, 0);
        f.set(0, PADDING, 50);
        DUE.equal("overflow(0), padding alone", f.overflow(0), 0);
    }

    /** An empty child behind a padding that is wider than half of the box stands too far. */
    private static void paddingWiderThanTheBox() {
        FlexibleBoxes f = sized(0, 0);
        f.set(0, PADDING, 40);
        f.viewport(80, 80);
        DUE.equal("overflow(0), just half", f.overflow(0), 0);
        f.viewport(79, 80);
        DUE.equal("overflow(0), one less wide", f.overflow(0), 1);
        f.viewport(80, 79);
        DUE.equal("overflow(0), one less high", f.overflow(0), 2);
    }

    /** "downward, if 16 * (number of its text lines) is greater than its inner height". */
    private static void textsThatJustFit() {
        FlexibleBoxes f = leaves(1, 40, 32);
        f.set(1, TEXT, 10);
        DUE.equal("overflow(1)", f.overflow(1), 0);
        f.viewport(40, 31);
        DUE.equal("overflow(1), one less high", f.overflow(1), 2);
        f.viewport(39, 32);
        DUE.equal("overflow(1), one less wide", f.overflow(1), 2);
        f.viewport(44, 36);
        f.set(1, PADDING, 2);
        DUE.equal("overflow(1) with padding", f.overflow(1), 0);
        f.set(1, PADDING, 3);
        DUE.equal("overflow(1) with more padding", f.overflow(1), 2);
        f.viewport(44, 0);
        DUE.equal("overflow(1) without height", f.overflow(1), 2);
    }

    /** "to the right, if it has text and its inner width is less than 8". */
    private static void lessThanOneCharacter() {
        FlexibleBoxes f = column(1, 8, 600);
        f.set(1, TEXT, 1);
        DUE.equal("overflow(1) in 8", f.overflow(1), 0);
        f.viewport(7, 600);
        DUE.equal("overflow(1) in 7", f.overflow(1), 1);
        f.viewport(0, 600);
        DUE.equal("overflow(1) in 0", f.overflow(1), 1);
        f.viewport(12, 600);
        f.set(1, PADDING, 2);
        DUE.equal("overflow(1) in 8 inside padding", f.overflow(1), 0);
        f.viewport(11, 600);
        DUE.equal("overflow(1) in 7 inside padding", f.overflow(1), 1);
        f.set(1, HEIGHT, 19);
        DUE.equal("overflow(1) both ways", f.overflow(1), 3);
        f.set(1, HEIGHT, 20);
        DUE.equal("overflow(1) to the right alone", f.overflow(1), 1);
    }

    /** A leaf without text exceeds nothing, though it has no room at all. */
    private static void leavesWithoutText() {
        FlexibleBoxes f = column(1, 0, 0);
        DUE.equal("overflow(1)", f.overflow(1), 0);
        f.set(1, PADDING, 50);
        DUE.equal("overflow(1) with padding", f.overflow(1), 0);
        FlexibleBoxes alone = new FlexibleBoxes();
        alone.viewport(0, 0);
        DUE.equal("overflow(0) of a root alone", alone.overflow(0), 0);
        alone.set(0, TEXT, 1);
        DUE.equal("overflow(0) of a root with text", alone.overflow(0), 3);
    }

    /** "px is at least x and less than x + width, and py is at least y and less than y + height". */
    private static void sidesOfABox() {
        FlexibleBoxes f = sized(30, 20);
        f.set(1, MARGIN, 10);
        int[][] due = {{10, 10, 1}, {9, 10, 0}, {10, 9, 0}, {39, 29, 1}, {40, 29, 0}, {39, 30, 0},
            {10, 29, 1}, {39, 10, 1}, {0, 0, 0}, {99, 79, 0}, {100, 79, NONE}, {99, 80, NONE},
            {-1, 0, NONE}, {0, -1, NONE}};
        for (int[] point : due) {
            DUE.equal("hit(" + point[0] + ", " + point[1] + ")", f.hit(point[0], point[1]), point[2]);
        }
    }

    /** A width or a height of 0 has no points. */
    private static void boxesWithoutSize() {
        DUE.equal("hit(0, 0) of a box without width", sized(0, 20).hit(0, 0), 0);
        DUE.equal("hit(0, 0) of a box without height", sized(20, 0).hit(0, 0), 0);
        DUE.equal("hit(0, 0) of a box of one pixel", sized(1, 1).hit(0, 0), 1);
        DUE.equal("hit(1, 0) of a box of one pixel", sized(1, 1).hit(1, 0), 0);
        DUE.equal("hit(0, 1) of a box of one pixel", sized(1, 1).hit(0, 1), 0);
        FlexibleBoxes f = new FlexibleBoxes();
        f.viewport(0, 600);
        DUE.equal("hit(0, 0) without width", f.hit(0, 0), NONE);
        f.viewport(800, 0);
        DUE.equal("hit(0, 0) without height", f.hit(0, 0), NONE);
    }

    /** "Returns the box, or NONE if there is none". */
    private static void noBoxThere() {
        FlexibleBoxes f = sized(10, 10);
        for (int[] point : new int[][] {{100, 0}, {0, 80}, {-1, -1}, {2000, 2000}}) {
            DUE.equal("hit(" + point[0] + ", " + point[1] + ")", f.hit(point[0], point[1]), NONE);
        }
        f.set(1, MARGIN, 50);
        f.viewport(0, 0);
        DUE.equal("hit(49, 49)", f.hit(49, 49), NONE);
        DUE.equal("hit(50, 50)", f.hit(50, 50), 1);
    }

    private static void theEndsOfInt() {
        FlexibleBoxes f = sized(1000, 1000);
        int[] ends = {Integer.MIN_VALUE, Integer.MIN_VALUE + 1, Integer.MAX_VALUE - 1, Integer.MAX_VALUE};
        for (int px : ends) {
            DUE.equal("hit(" + px + ", 5)", f.hit(px, 5), NONE);
            DUE.equal("hit(5, " + px + ")", f.hit(5, px), NONE);
            for (int py : ends) {
                DUE.equal("hit(" + px + ", " + py + ")", f.hit(px, py), NONE);
            }
        }
    }

    /** "each box before its children, and each child with all boxes below it before the next child". */
    private static void paintedLast() {
        FlexibleBoxes f = tree(0, 0, 1, 3);
        all(f, SHRINK, 0);
        all(f, WIDTH, 100);
        DUE.equal("hit(50, 0), the deepest", f.hit(50, 0), 4);
        f.set(1, WIDTH, 50);
        DUE.equal("hit(60, 0), the next child over those below box 1", f.hit(60, 0), 2);
        DUE.equal("hit(49, 0)", f.hit(49, 0), 4);
        f.set(2, ORDER, -1);
        f.set(2, WIDTH, 50);
        DUE.equal("hit(60, 0), box 2 painted first", f.hit(60, 0), 4);
        DUE.equal("hit(49, 0)", f.hit(49, 0), 2);
        f.add(2);
        f.set(5, WIDTH, 100);
        f.set(5, SHRINK, 0);
        DUE.equal("hit(60, 0), box 5 below box 2", f.hit(60, 0), 4);
        f.set(2, ORDER, 0);
        f.set(1, WIDTH, 10);
        DUE.equal("hit(20, 0), box 5 below the later one", f.hit(20, 0), 5);
    }

    /** A box may stand outside of its parent, and of the viewport. */
    private static void outsideItsParent() {
        FlexibleBoxes f = sized(50, 50);
        f.add(1);
        f.set(2, WIDTH, 1000);
        f.set(2, HEIGHT, 1000);
        f.set(2, SHRINK, 0);
        DUE.equal("hit(999, 999)", f.hit(999, 999), 2);
        DUE.equal("hit(1000, 999)", f.hit(1000, 999), NONE);
        f.set(2, HIDDEN, 1);
        DUE.equal("hit(49, 49)", f.hit(49, 49), 1);
        DUE.equal("hit(50, 49)", f.hit(50, 49), 0);
    }

    private static FlexibleBoxes text(int characters) {
        FlexibleBoxes f = new FlexibleBoxes();
        f.set(0, TEXT, characters);
        return f;
    }

    /** "with which lines(box) would be at most n". */
    private static void onlyAsManyLines() {
        FlexibleBoxes f = text(10);
        int[] due = {NONE, 80, 40, 32, 24, 16, 16, 16, 16, 16, 0};
        for (int n = 0; n <= 10; n++) {
            DUE.equal("widthFor(0, " + n + ")", f.widthFor(0, n), due[n]);
        }
        DUE.equal("widthFor(0, 11), never so many", f.widthFor(0, 11), 0);
    }

    /** "Finds the smallest viewport width": less of it may be more lines, and more of it too. */
    private static void theSmallestOfSeveral() {
        FlexibleBoxes f = leaves(2, 100, 100);
        f.set(0, WRAP, 1);
        f.set(1, WIDTH, 80);
        f.set(2, BASIS, 8);
        f.set(2, GROW, 1);
        f.set(2, TEXT, 9);
        // Box 2 stands alone in its line up to 87, and beside box 1 from 88 on.
        DUE.equal("widthFor(2, 1)", f.widthFor(2, 1), 72);
        DUE.equal("widthFor(2, 3)", f.widthFor(2, 3), 24);
        f.set(2, TEXT, 10);
        DUE.equal("widthFor(2, 1)", f.widthFor(2, 1), 80);
        f.set(2, TEXT, 11);
        DUE.equal("widthFor(2, 1)", f.widthFor(2, 1), 168);
    }

    /** "from 0": a box that never has more than n lines. */
    private static void theFirstWidthOfAll() {
        DUE.equal("widthFor(0, 0) without text", text(0).widthFor(0, 0), 0);
        DUE.equal("widthFor(0, 1) of one character", text(1).widthFor(0, 1), 0);
        FlexibleBoxes f = leaves(2, 100, 100);
        all(f, TEXT, 100);
        DUE.equal("widthFor(0, 1) of a row", f.widthFor(0, 1), 0);
        f.set(1, WIDTH, 800);
        f.set(1, SHRINK, 0);
        DUE.equal("widthFor(1, 1) of a fixed width", f.widthFor(1, 1), 0);
        f.set(0, WRAP, 1);
        all(f, WIDTH, 0);
        DUE.equal("widthFor(0, 1) of empty boxes", f.widthFor(0, 1), 0);
    }

    /** "... to 2000". */
    private static void theLastWidthOfAll() {
        DUE.equal("widthFor(0, 1) of 250", text(250).widthFor(0, 1), 2000);
        DUE.equal("widthFor(0, 2) of 499", text(499).widthFor(0, 2), 2000);
        FlexibleBoxes f = leaves(2, 100, 100);
        f.set(0, WRAP, 1);
        all(f, WIDTH, 1000);
        DUE.equal("widthFor(0, 1) of a row", f.widthFor(0, 1), 2000);
        f.set(1, WIDTH, 999);
        DUE.equal("widthFor(0, 1) of a row", f.widthFor(0, 1), 1999);
    }

    /** "Returns the width, or NONE if there is none". */
    private static void noWidthAtAll() {
        DUE.equal("widthFor(0, 1) of 251", text(251).widthFor(0, 1), NONE);
        FlexibleBoxes padded = text(250);
        padded.set(0, PADDING, 1);
        DUE.equal("widthFor(0, 1) of 250 inside padding", padded.widthFor(0, 1), NONE);
        FlexibleBoxes f = leaves(2, 100, 100);
        f.set(0, WRAP, 1);
        f.set(0, GAP, 1);
        all(f, WIDTH, 1000);
        DUE.equal("widthFor(0, 1) of a row", f.widthFor(0, 1), NONE);
        f.set(1, TEXT, 100);
        f.set(1, MAX_WIDTH, 792);
        DUE.equal("widthFor(1, 1), limited", f.widthFor(1, 1), NONE);
        f.set(0, DIRECTION, COLUMN);
        DUE.equal("widthFor(0, 1) of a column", f.widthFor(0, 1), NONE);
        DUE.equal("widthFor(0, 2) of a column", f.widthFor(0, 2), 0);
    }

    /** n may be 0. */
    private static void noLinesAsked() {
        DUE.equal("widthFor(0, 0) of one character", text(1).widthFor(0, 0), NONE);
        FlexibleBoxes f = leaves(1, 100, 100);
        DUE.equal("widthFor(0, 0) of a row", f.widthFor(0, 0), NONE);
        DUE.equal("widthFor(1, 0) without text", f.widthFor(1, 0), 0);
        f.set(1, HIDDEN, 1);
        DUE.equal("widthFor(0, 0) without children", f.widthFor(0, 0), 0);
        f.set(0, DIRECTION, COLUMN);
        DUE.equal("widthFor(0, 0) of a column without children", f.widthFor(0, 0), 0);
        f.set(1, HIDDEN, 0);
        DUE.equal("widthFor(0, 0) of a column", f.widthFor(0, 0), NONE);
    }

    /** n may be 100. */
    private static void aHundredLinesAsked() {
        DUE.equal("widthFor(0, 100) of 500", text(500).widthFor(0, 100), 40);
        DUE.equal("widthFor(0, 100) of 101", text(101).widthFor(0, 100), 16);
        DUE.equal("widthFor(0, 100) of 100", text(100).widthFor(0, 100), 0);
    }

    /** "The viewport is not changed". */
    private static void theViewportStays() {
        FlexibleBoxes f = leaves(2, 333, 222);
        all(f, TEXT, 100);
        f.set(0, WRAP, 1);
        String before = Due.picture(f);
        DUE.equal("widthFor(1, 2)", f.widthFor(1, 2), 400);
        DUE.equal("width(0)", f.width(0), 333);
        DUE.equal("height(0)", f.height(0), 222);
        DUE.equal("widthFor(1, 1)", f.widthFor(1, 1), 800);
        DUE.equal("widthFor(0, 1)", f.widthFor(0, 1), 1600);
        DUE.equal("hit(333, 0)", f.hit(333, 0), NONE);
        DUE.same("what widthFor leaves", Due.picture(f), before);
        f.save(0);
        f.widthFor(0, 1);
        f.restore(0);
        DUE.same("what widthFor leaves behind save", Due.picture(f), before);
    }

    /** "the height of the viewport does not change", and lines do not depend on it. */
    private static void theHeightHasNoSay() {
        FlexibleBoxes f = leaves(1, 100, 0);
        f.set(1, TEXT, 50);
        DUE.equal("widthFor(1, 2)", f.widthFor(1, 2), 200);
        f.viewport(100, 2000);
        DUE.equal("widthFor(1, 2)", f.widthFor(1, 2), 200);
        DUE.equal("height(0)", f.height(0), 2000);
    }

    /** "An object is used for at most 512 calls": the last of them is answered like the first. */
    private static void fiveHundredTwelveCalls() {
        FlexibleBoxes f = new FlexibleBoxes();
        int calls = 0;
        for (int box = 1; box <= 39; box++) {
            f.add(box - 1);
            f.set(box, TEXT, 9);
            calls += 2;
        }
        f.save(0);
        calls++;
        while (calls < 510) {
            f.set(39, TEXT, calls % 500);
            DUE.equal("naturalWidth(0)", f.naturalWidth(0), calls % 500 * 8);
            f.restore(0);
            calls += 3;
        }
        DUE.equal("the calls so far", calls, 511);
        DUE.equal("widthFor(39, 1), the 512th call", f.widthFor(39, 1), 72);
    }
}

/** Boundaries of the steps 3 and 4 of the layout: natural heights, heights and positions. */
public final class HeightEdgesTest extends Checks {
    public static void main(String[] args) {
        textLinesRoundedUp();
        charactersThatFit();
        oneCharacterAtLeast();
        noTextNoLine();
        fixedWidthsMakeTextLines();
        theHighestOfALine();
        gapsBetweenLinesAlone();
        gapsInAColumnAlone();
        noChildrenNoContent();
        fixedInsteadOfContent();
        limitedInBothCases();
        theRootIsAsHighAsTheViewport();
        innerAreaBehindPadding();
        innerHeightOfAtLeastNothing();
        baseOfHeights();
        limitsOfHeightsInAColumn();
        linesFromTheBeginning();
        linesWithGap();
        theSingleLineWithoutWrap();
        theSingleLineWithWrap();
        fixedHeightsInARow();
        stretchedHeights();
        marginsThatLeaveNothing();
        naturalHeightsInARow();
        limitedInAllCasesInARow();
        DUE.end("HeightEdgesTest");
    }

    /** "the number of its text lines, which is TEXT divided by the number of characters ..., rounded up". */
    private static void textLinesRoundedUp() {
        FlexibleBoxes f = column(1, 40, 600);
        int[][] due = {{1, 1}, {4, 1}, {5, 1}, {6, 2}, {9, 2}, {10, 2}, {11, 3}, {499, 100}, {500, 100}};
        for (int[] pair : due) {
            f.set(1, TEXT, pair[0]);
            DUE.equal("lines(1) of " + pair[0], f.lines(1), pair[1]);
            DUE.equal("naturalHeight(1) of " + pair[0], f.naturalHeight(1), 16 * pair[1]);
        }
    }

    /** "this number is the inner width / 8", rounded down. */
    private static void charactersThatFit() {
        FlexibleBoxes f = column(1, 0, 600);
        f.set(1, TEXT, 12);
        f.set(1, PADDING, 2);
        int[][] due = {{12, 12}, {19, 12}, {20, 6}, {27, 6}, {28, 4}, {99, 2}, {100, 1}, {101, 1}};
        for (int[] pair : due) {
            f.viewport(pair[0], 600);
            DUE.equal("lines(1) in " + pair[0], f.lines(1), pair[1]);
            DUE.equal("naturalHeight(1) in " + pair[0], f.naturalHeight(1), 16 * pair[1] + 4);
        }
    }

    /** "... but at least 1". */
    private static void oneCharacterAtLeast() {
        FlexibleBoxes f = column(1, 0, 600);
        f.set(1, TEXT, 500);
        for (int width : new int[] {0, 1, 7, 8, 15}) {
            f.viewport(width, 600);
            DUE.equal("lines(1) in " + width, f.lines(1), 500);
            DUE.equal("naturalHeight(1) in " + width, f.naturalHeight(1), 8000);
        }
        f.viewport(16, 600);
        DUE.equal("lines(1) in 16", f.lines(1), 250);
        f.set(1, PADDING, 50);
        DUE.equal("lines(1) inside padding", f.lines(1), 500);
        DUE.equal("naturalHeight(1) inside padding", f.naturalHeight(1), 8100);
    }

    /** No text has no lines, however narrow the box is. */
    private static void noTextNoLine() {
        FlexibleBoxes f = column(1, 100, 600);
        for (int width : new int[] {0, 7, 8, 100}) {
            f.viewport(width, 600);
            DUE.equal("lines(1) in " + width, f.lines(1), 0);
            DUE.equal("naturalHeight(1) in " + width, f.naturalHeight(1), 0);
        }
    }

    /** The inner width of step 2 counts, not the natural one. */
    private static void fixedWidthsMakeTextLines() {
        FlexibleBoxes f = leaves(2, 100, 600);
        all(f, TEXT, 10);
        row("width", f::width, 50, 50);
        row("lines", f::lines, 2, 2);
        f.set(1, GROW, 1);
        f.set(1, BASIS, 0);
        f.set(2, WIDTH, 8);
        row("width", f::width, 92, 8);
        row("lines", f::lines, 1, 10);
    }

    /** "the height of a line is the greatest outer natural height of its children", wherever it stands. */
    private static void theHighestOfALine() {
        for (int highest = 2; highest <= 4; highest++) {
            FlexibleBoxes f = tree(0, 1, 1, 1);
            f.set(1, GAP, 9);
            for (int box = 2; box <= 4; box++) {
                f.set(box, HEIGHT, 20);
            }
            f.set(highest, MARGIN, 3);
            DUE.equal("naturalHeight(1)", f.naturalHeight(1), 26);
            f.set(highest, HEIGHT, 0);
            DUE.equal("naturalHeight(1), another one is the highest", f.naturalHeight(1), 20);
            f.set(highest, MARGIN, 50);
            DUE.equal("naturalHeight(1) by a margin alone", f.naturalHeight(1), 100);
            f.set(highest, HIDDEN, 1);
            DUE.equal("naturalHeight(1) without a hidden one", f.naturalHeight(1), 20);
        }
    }

    /** "plus GAP between each two neighbouring lines": none for one line. */
    private static void gapsBetweenLinesAlone() {
        FlexibleBoxes f = tree(0);
        f.set(0, DIRECTION, COLUMN);
        f.set(1, WRAP, 1);
        f.set(1, GAP, 50);
        DUE.equal("naturalHeight(1) of a leaf with GAP", f.naturalHeight(1), 0);
        int[] due = {10, 70, 130, 190};
        for (int child = 0; child < 4; child++) {
            int box = f.add(1);
            f.set(box, WIDTH, 800);
            f.set(box, HEIGHT, 10);
            DUE.equal("naturalHeight(1) of " + (child + 1) + " lines", f.naturalHeight(1), due[child]);
        }
        f.set(3, HIDDEN, 1);
        DUE.equal("naturalHeight(1) without a hidden one", f.naturalHeight(1), 130);
        f.set(1, WRAP, 0);
        DUE.equal("naturalHeight(1) of one line", f.naturalHeight(1), 10);
    }

    /** "for a column, the sum of the outer natural heights ..., plus GAP between each two neighbouring ones". */
    private static void gapsInAColumnAlone() {
        FlexibleBoxes f = tree(0);
        f.set(1, DIRECTION, COLUMN);
        f.set(1, GAP, 50);
        DUE.equal("naturalHeight(1) of a leaf with GAP", f.naturalHeight(1), 0);
        int[] due = {12, 74, 136, 198};
        for (int child = 0; child < 4; child++) {
            int box = f.add(1);
            f.set(box, HEIGHT, 10);
            f.set(box, MARGIN, 1);
            DUE.equal("naturalHeight(1) of " + (child + 1), f.naturalHeight(1), due[child]);
        }
        f.set(3, HIDDEN, 1);
        DUE.equal("naturalHeight(1) without a hidden one", f.naturalHeight(1), 136);
    }

    /** "0 without children": padding alone is left. */
    private static void noChildrenNoContent() {
        FlexibleBoxes f = tree(0, 1, 1);
        f.set(1, GAP, 9);
        f.set(1, PADDING, 3);
        f.set(1, TEXT, 100);
        f.set(2, HEIGHT, 100);
        f.set(3, HEIGHT, 100);
        f.set(2, HIDDEN, 1);
        f.set(3, HIDDEN, 1);
        DUE.equal("naturalHeight(1) of a row", f.naturalHeight(1), 6);
        f.set(1, WRAP, 1);
        DUE.equal("naturalHeight(1) of lines", f.naturalHeight(1), 6);
        f.set(1, DIRECTION, COLUMN);
        DUE.equal("naturalHeight(1) of a column", f.naturalHeight(1), 6);
        f.set(1, PADDING, 0);
        DUE.equal("naturalHeight(1) without padding", f.naturalHeight(1), 0);
    }

    /** "The natural height is HEIGHT if it is not -1, otherwise the content height + 2 * PADDING". */
    private static void fixedInsteadOfContent() {
        FlexibleBoxes f = leaves(1, 800, 600);
        f.set(1, TEXT, 3);
        f.set(1, PADDING, 10);
        DUE.equal("naturalHeight(1)", f.naturalHeight(1), 36);
        for (int height : new int[] {0, 1, 35, 36, 37, 1000}) {
            f.set(1, HEIGHT, height);
            DUE.equal("naturalHeight(1), fixed at " + height, f.naturalHeight(1), height);
        }
        f.set(1, HEIGHT, -1);
        f.set(0, DIRECTION, COLUMN);
        f.set(1, BASIS, 7);
        DUE.equal("naturalHeight(1), BASIS has no say", f.naturalHeight(1), 36);
    }

    /** "in both cases limited". */
    private static void limitedInBothCases() {
        FlexibleBoxes f = leaves(1, 800, 600);
        f.set(1, TEXT, 3);
        f.set(1, PADDING, 10);
        f.set(1, MAX_HEIGHT, 35);
        DUE.equal("naturalHeight(1), one too high", f.naturalHeight(1), 35);
        f.set(1, MAX_HEIGHT, 36);
        f.set(1, MIN_HEIGHT, 37);
        DUE.equal("naturalHeight(1), one too low", f.naturalHeight(1), 37);
        f.set(1, HEIGHT, 36);
        DUE.equal("naturalHeight(1), fixed one too low", f.naturalHeight(1), 37);
        f.set(1, MIN_HEIGHT, 0);
        f.set(1, HEIGHT, 37);
        DUE.equal("naturalHeight(1), fixed one too high", f.naturalHeight(1), 36);
    }

    /** "The height of the root is that of the viewport, and its position is (0, 0)". */
    private static void theRootIsAsHighAsTheViewport() {
        FlexibleBoxes f = new FlexibleBoxes();
        f.set(0, TEXT, 500);
        f.set(0, PADDING, 50);
        f.set(0, MARGIN, 50);
        for (int height : new int[] {0, 1, 2000}) {
            f.viewport(5, height);
            DUE.equal("height(0)", f.height(0), height);
            DUE.equal("x(0)", f.x(0), 0);
            DUE.equal("y(0)", f.y(0), 0);
        }
    }

    /** "The inner area of a box begins PADDING to the right of and below its position", though it be smaller. */
    private static void innerAreaBehindPadding() {
        FlexibleBoxes f = tree(0, 1);
        f.set(0, PADDING, 50);
        f.set(1, PADDING, 50);
        f.set(2, MARGIN, 50);
        f.viewport(0, 0);
        for (int direction = ROW; direction <= COLUMN; direction++) {
            f.set(0, DIRECTION, direction);
            f.set(1, DIRECTION, direction);
            row("x", f::x, 50, 150);
            row("y", f::y, 50, 150);
        }
    }

    /** "likewise the inner height": at least 0. */
    private static void innerHeightOfAtLeastNothing() {
        FlexibleBoxes f = leaves(1, 600, 600);
        f.set(0, PADDING, 50);
        int[][] due = {{102, 2}, {101, 1}, {100, 0}, {99, 0}, {0, 0}};
        for (int[] pair : due) {
            f.viewport(600, pair[0]);
            f.set(0, DIRECTION, ROW);
            DUE.equal("height(1) in a viewport of " + pair[0], f.height(1), pair[1]);
            f.set(0, DIRECTION, COLUMN);
            f.set(1, GROW, 1);
            DUE.equal("height(1) in a column, in a viewport of " + pair[0], f.height(1), pair[1]);
        }
    }

    /** "with BASIS, or the natural height if BASIS is -1, as the base". */
    private static void baseOfHeights() {
        FlexibleBoxes f = column(1, 600, 2000);
        f.set(1, HEIGHT, 40);
        for (int basis : new int[] {0, 1, 39, 41, 1000}) {
            f.set(1, BASIS, basis);
            DUE.equal("height(1) by BASIS " + basis, f.height(1), basis);
            DUE.equal("naturalHeight(1)", f.naturalHeight(1), 40);
        }
        f.set(1, BASIS, -1);
        DUE.equal("height(1) without BASIS", f.height(1), 40);
        f.set(1, HEIGHT, -1);
        DUE.equal("height(1) without any", f.height(1), 0);
    }

    /** "and limits of heights": those of widths have no say. */
    private static void limitsOfHeightsInAColumn() {
        FlexibleBoxes f = column(2, 600, 100);
        all(f, GROW, 1);
        all(f, BASIS, 0);
        f.set(1, MAX_HEIGHT, 30);
        f.set(2, MAX_WIDTH, 10);
        row("height", f::height, 30, 70);
        f.set(1, MAX_HEIGHT, 10000);
        f.set(1, MIN_HEIGHT, 60);
        f.set(2, MIN_WIDTH, 90);
        row("height", f::height, 60, 40);
        f.set(1, MIN_HEIGHT, 101);
        row("height, more than the space", f::height, 101, 0);
    }

    /** "the lines stand below each other, from the beginning of the inner area". */
    private static void linesFromTheBeginning() {
        FlexibleBoxes f = leaves(2, 100, 600);
        f.set(0, WRAP, 1);
        f.set(0, PADDING, 5);
        f.set(0, ALIGN, END);
        f.set(0, JUSTIFY, END);
        all(f, WIDTH, 90);
        all(f, HEIGHT, 10);
        row("y, whatever ALIGN says", f::y, 5, 15);
        f.viewport(100, 0);
        row("y without height", f::y, 5, 15);
    }

    /** "with GAP between them". */
    private static void linesWithGap() {
        FlexibleBoxes f = leaves(3, 100, 600);
        f.set(0, WRAP, 1);
        f.set(0, GAP, 50);
        all(f, WIDTH, 90);
        f.set(1, HEIGHT, 10);
        f.set(3, HEIGHT, 10);
        row("y, with an empty line between", f::y, 0, 60, 110);
        f.set(2, MARGIN, 1);
        row("y, with a line of margins between", f::y, 0, 61, 112);
    }

    /** "if the parent has no WRAP, its single line has the inner height", be it more or less than the content. */
    private static void theSingleLineWithoutWrap() {
        FlexibleBoxes f = leaves(2, 100, 100);
        f.set(0, PADDING, 5);
        f.set(1, HEIGHT, 40);
        row("height", f::height, 40, 90);
        f.viewport(100, 30);
        row("height, less than the content", f::height, 40, 20);
        f.viewport(100, 10);
        row("height, nothing", f::height, 40, 0);
        f.viewport(100, 9);
        row("height, less than nothing", f::height, 40, 0);
    }

    /** "A line has the height as in step 3", also a single one with WRAP. */
    private static void theSingleLineWithWrap() {
        FlexibleBoxes f = leaves(2, 100, 100);
        f.set(0, WRAP, 1);
        f.set(1, HEIGHT, 40);
        row("height", f::height, 40, 40);
        f.viewport(100, 0);
        row("height without space", f::height, 40, 40);
        f.set(1, HEIGHT, 0);
        row("height of an empty line", f::height, 0, 0);
        f.set(1, HEIGHT, 5);
        f.set(1, MAX_HEIGHT, 3);
        row("height by the limited one", f::height, 3, 3);
        f.set(1, MARGIN, 4);
        row("height by the outer one", f::height, 3, 11);
    }

    /** "The height of a child is HEIGHT if it is not -1". */
    private static void fixedHeightsInARow() {
        FlexibleBoxes f = leaves(1, 100, 50);
        f.set(1, TEXT, 1);
        for (int height : new int[] {0, 1, 50, 51, 1000}) {
            f.set(1, HEIGHT, height);
            for (int self = START; self <= STRETCH; self++) {
                f.set(1, SELF, self);
                DUE.equal("height(1), fixed at " + height, f.height(1), height);
            }
        }
    }

    /** "otherwise, if its alignment is STRETCH, the height of the line minus 2 * MARGIN". */
    private static void stretchedHeights() {
        FlexibleBoxes f = leaves(2, 100, 50);
        all(f, TEXT, 1);
        f.set(2, MARGIN, 4);
        row("height, stretched", f::height, 50, 42);
        f.set(1, SELF, CENTER);
        row("height, one aligned by itself", f::height, 16, 42);
        f.set(0, ALIGN, END);
        f.set(2, SELF, STRETCH);
        row("height, one stretched by itself", f::height, 16, 42);
        f.set(1, SELF, NONE);
        f.set(2, SELF, NONE);
        row("height, none stretched", f::height, 16, 16);
    }

    /** "... but at least 0". */
    private static void marginsThatLeaveNothing() {
        FlexibleBoxes f = leaves(1, 600, 600);
        f.set(1, TEXT, 9);
        f.set(1, MARGIN, 50);
        int[][] due = {{102, 2}, {101, 1}, {100, 0}, {99, 0}, {1, 0}, {0, 0}};
        for (int[] pair : due) {
            f.viewport(600, pair[0]);
            DUE.equal("height(1), stretched in " + pair[0], f.height(1), pair[1]);
            DUE.equal("y(1) in " + pair[0], f.y(1), 50);
        }
        f.set(1, MIN_HEIGHT, 1);
        DUE.equal("height(1), limited below", f.height(1), 1);
    }

    /** "otherwise its natural height", also if the line is lower. */
    private static void naturalHeightsInARow() {
        FlexibleBoxes f = leaves(1, 8, 600);
        f.set(0, ALIGN, START);
        f.set(1, TEXT, 3);
        for (int height : new int[] {600, 49, 48, 47, 0}) {
            f.viewport(8, height);
            DUE.equal("height(1) in " + height, f.height(1), 48);
        }
    }

    /** "in all cases limited". */
    private static void limitedInAllCasesInARow() {
        FlexibleBoxes f = leaves(3, 600, 100);
        f.set(1, HEIGHT, 50);
        f.set(2, SELF, STRETCH);
        f.set(3, SELF, START);
        f.set(3, TEXT, 1);
        row("height", f::height, 50, 100, 16);
        all(f, MAX_HEIGHT, 10);
        row("height, limited above", f::height, 10, 10, 10);
        all(f, MIN_HEIGHT, 120);
        row("height, limited below, higher than the line", f::height, 120, 120, 120);
    }
}

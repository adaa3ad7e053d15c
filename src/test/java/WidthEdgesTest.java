/** Boundaries of the steps 1 and 2 of the layout: natural widths, and widths. A test for each sentence. */
public final class WidthEdgesTest extends Checks {
    public static void main(String[] args) {
        innerWidthOfAtLeastNothing();
        textsOfNoneOneAndMost();
        gapsBetweenNeighboursAlone();
        theGreatestOfAColumn();
        noChildrenNoContent();
        fixedInsteadOfContent();
        limitedInBothCases();
        childrenBeforeTheirParents();
        theRootIsAsWideAsTheViewport();
        marginsThatLeaveNothing();
        fixedWidthsInAColumn();
        stretchedWidthsInAColumn();
        theSmallerOneInAColumn();
        limitedInAllCasesInAColumn();
        theBaseInARow();
        theStartSizeIsLimited();
        oneLineWithoutWrap();
        aLineThatIsJustFull();
        aLineThatIsOneTooLong();
        theFirstOfALineAlwaysFits();
        theLineBeginsAnew();
        gapsInALine();
        marginsInALine();
        linesByStartSizes();
        noSpaceForAnyLine();
        emptyBoxesInALine();
        theSpaceOfEachLine();
        DUE.end("WidthEdgesTest");
    }

    /** "The inner width of a box is its width minus 2 * PADDING, but at least 0". */
    private static void innerWidthOfAtLeastNothing() {
        FlexibleBoxes f = tree(0);
        f.set(0, DIRECTION, COLUMN);
        f.set(0, PADDING, 50);
        int[][] due = {{102, 2}, {101, 1}, {100, 0}, {99, 0}, {0, 0}};
        for (int[] pair : due) {
            f.viewport(pair[0], 600);
            DUE.equal("width(1) in a viewport of " + pair[0], f.width(1), pair[1]);
            DUE.equal("x(1) in a viewport of " + pair[0], f.x(1), 50);
        }
        f.set(0, DIRECTION, ROW);
        f.set(1, GROW, 1);
        for (int[] pair : due) {
            f.viewport(pair[0], 600);
            DUE.equal("width(1) in a row, in a viewport of " + pair[0], f.width(1), pair[1]);
        }
    }

    /** "The content width is 8 * TEXT for a leaf". */
    private static void textsOfNoneOneAndMost() {
        FlexibleBoxes f = leaves(1, 2000, 600);
        int[][] due = {{0, 0}, {1, 8}, {500, 4000}};
        for (int[] pair : due) {
            f.set(1, TEXT, pair[0]);
            DUE.equal("naturalWidth(1) of " + pair[0], f.naturalWidth(1), pair[1]);
            f.set(1, PADDING, 50);
            DUE.equal("naturalWidth(1) with padding", f.naturalWidth(1), pair[1] + 100);
            f.set(1, PADDING, 0);
        }
        FlexibleBoxes alone = new FlexibleBoxes();
        alone.set(0, TEXT, 500);
        DUE.equal("naturalWidth(0) of a root with text", alone.naturalWidth(0), 4000);
    }

    /** "plus GAP between each two neighbouring ones": none for one child, one for two. */
    private static void gapsBetweenNeighboursAlone() {
        FlexibleBoxes f = tree(0);
        f.set(1, GAP, 50);
        DUE.equal("naturalWidth(1) of a leaf with GAP", f.naturalWidth(1), 0);
        int[] due = {8, 66, 124, 182};
        for (int child = 0; child < 4; child++) {
            f.set(f.add(1), TEXT, 1);
            DUE.equal("naturalWidth(1) of " + (child + 1), f.naturalWidth(1), due[child]);
        }
        f.set(3, HIDDEN, 1);
        DUE.equal("naturalWidth(1) without a hidden one", f.naturalWidth(1), 124);
        f.set(1, DIRECTION, COLUMN);
        DUE.equal("naturalWidth(1) of a column, GAP has no say", f.naturalWidth(1), 8);
    }

    /** "for a column, the greatest outer natural width of the children", wherever it stands. */
    private static void theGreatestOfAColumn() {
        for (int greatest = 2; greatest <= 4; greatest++) {
            FlexibleBoxes f = tree(0, 1, 1, 1);
            f.set(1, DIRECTION, COLUMN);
            f.set(2, TEXT, 3);
            f.set(3, TEXT, 3);
            f.set(4, TEXT, 3);
            f.set(greatest, MARGIN, 5);
            DUE.equal("naturalWidth(1)", f.naturalWidth(1), 34);
            f.set(greatest, TEXT, 0);
            DUE.equal("naturalWidth(1), another one is the greatest", f.naturalWidth(1), 24);
            f.set(greatest, HIDDEN, 1);
            DUE.equal("naturalWidth(1) without a hidden one", f.naturalWidth(1), 24);
        }
    }

    /** "... 0 without children": padding alone is left. */
    private static void noChildrenNoContent() {
        FlexibleBoxes f = tree(0, 1);
        f.set(1, GAP, 9);
        f.set(1, PADDING, 3);
        f.set(2, WIDTH, 100);
        f.set(2, MARGIN, 20);
        f.set(2, HIDDEN, 1);
        DUE.equal("naturalWidth(1) of a row", f.naturalWidth(1), 6);
        f.set(1, DIRECTION, COLUMN);
        DUE.equal("naturalWidth(1) of a column", f.naturalWidth(1), 6);
        f.set(1, PADDING, 0);
        DUE.equal("naturalWidth(1) without padding", f.naturalWidth(1), 0);
    }

    /** "The natural width is WIDTH if it is not -1, otherwise the content width + 2 * PADDING". */
    private static void fixedInsteadOfContent() {
        FlexibleBoxes f = leaves(1, 800, 600);
        f.set(1, TEXT, 3);
        f.set(1, PADDING, 10);
        DUE.equal("naturalWidth(1)", f.naturalWidth(1), 44);
        int[] fixed = {0, 1, 43, 44, 45, 1000};
        for (int width : fixed) {
            f.set(1, WIDTH, width);
            DUE.equal("naturalWidth(1), fixed at " + width, f.naturalWidth(1), width);
        }
        f.set(1, WIDTH, -1);
        f.set(1, BASIS, 7);
        DUE.equal("naturalWidth(1), BASIS has no say", f.naturalWidth(1), 44);
    }

    /** "in both cases limited". */
    private static void limitedInBothCases() {
        FlexibleBoxes f = leaves(1, 800, 600);
        f.set(1, TEXT, 3);
        f.set(1, PADDING, 10);
        f.set(1, MAX_WIDTH, 43);
        DUE.equal("naturalWidth(1), one too wide", f.naturalWidth(1), 43);
        f.set(1, MAX_WIDTH, 44);
        f.set(1, MIN_WIDTH, 45);
        DUE.equal("naturalWidth(1), one too narrow", f.naturalWidth(1), 45);
        f.set(1, WIDTH, 44);
        DUE.equal("naturalWidth(1), fixed one too narrow", f.naturalWidth(1), 45);
        f.set(1, MIN_WIDTH, 0);
        f.set(1, WIDTH, 45);
        DUE.equal("naturalWidth(1), fixed one too wide", f.naturalWidth(1), 44);
    }

    /** "Natural widths, of children before their parents": limits below count above. */
    private static void childrenBeforeTheirParents() {
        FlexibleBoxes f = tree(0, 1, 2, 3);
        all(f, PADDING, 1);
        f.set(4, TEXT, 10);
        DUE.equal("naturalWidth(1)", f.naturalWidth(1), 88);
        f.set(4, MAX_WIDTH, 50);
        f.set(3, MIN_WIDTH, 60);
        DUE.equal("naturalWidth(4)", f.naturalWidth(4), 50);
        DUE.equal("naturalWidth(3)", f.naturalWidth(3), 60);
        DUE.equal("naturalWidth(1)", f.naturalWidth(1), 64);
        f.viewport(10, 10);
        DUE.equal("naturalWidth(1) does not depend on the viewport", f.naturalWidth(1), 64);
    }

    /** "The width of the root is that of the viewport". */
    private static void theRootIsAsWideAsTheViewport() {
        FlexibleBoxes f = new FlexibleBoxes();
        f.set(0, TEXT, 500);
        f.set(0, PADDING, 50);
        for (int width : new int[] {0, 1, 2000}) {
            f.viewport(width, 5);
            DUE.equal("width(0)", f.width(0), width);
        }
    }

    /** "a be the inner width of the parent minus 2 * MARGIN of the child, but at least 0". */
    private static void marginsThatLeaveNothing() {
        FlexibleBoxes f = column(1, 600, 600);
        f.set(1, TEXT, 9);
        f.set(1, MARGIN, 50);
        int[][] due = {{102, 2}, {101, 1}, {100, 0}, {99, 0}, {1, 0}, {0, 0}};
        for (int[] pair : due) {
            f.viewport(pair[0], 600);
            f.set(1, SELF, STRETCH);
            DUE.equal("width(1), stretched in " + pair[0], f.width(1), pair[1]);
            f.set(1, SELF, START);
            DUE.equal("width(1) in " + pair[0], f.width(1), pair[1]);
            DUE.equal("x(1) in " + pair[0], f.x(1), 50);
        }
    }

    /** "The width of the child is WIDTH if it is not -1". */
    private static void fixedWidthsInAColumn() {
        FlexibleBoxes f = column(1, 100, 600);
        f.set(1, TEXT, 5);
        for (int width : new int[] {0, 1, 100, 101, 1000}) {
            f.set(1, WIDTH, width);
            for (int self = START; self <= STRETCH; self++) {
                f.set(1, SELF, self);
                DUE.equal("width(1), fixed at " + width, f.width(1), width);
            }
        }
    }

    /** "otherwise a, if its alignment is STRETCH". */
    private static void stretchedWidthsInAColumn() {
        FlexibleBoxes f = column(2, 100, 600);
        f.set(1, TEXT, 5);
        f.set(2, TEXT, 50);
        row("width, stretched", f::width, 100, 100);
        f.set(1, SELF, END);
        row("width, one aligned by itself", f::width, 40, 100);
        f.set(0, ALIGN, CENTER);
        f.set(2, SELF, STRETCH);
        row("width, one stretched by itself", f::width, 40, 100);
    }

    /** "otherwise the smaller one of a and its natural width". */
    private static void theSmallerOneInAColumn() {
        FlexibleBoxes f = column(1, 100, 600);
        f.set(0, ALIGN, START);
        f.set(1, TEXT, 5);
        int[][] due = {{41, 40}, {40, 40}, {39, 39}, {0, 0}};
        for (int[] pair : due) {
            f.viewport(pair[0], 600);
            DUE.equal("width(1) in " + pair[0], f.width(1), pair[1]);
        }
        f.set(1, TEXT, 0);
        f.viewport(100, 600);
        DUE.equal("width(1) without text", f.width(1), 0);
    }

    /** "in all cases limited". */
    private static void limitedInAllCasesInAColumn() {
        FlexibleBoxes f = column(3, 100, 600);
        f.set(1, WIDTH, 50);
        f.set(2, SELF, STRETCH);
        f.set(3, SELF, START);
        f.set(3, TEXT, 8);
        row("width", f::width, 50, 100, 64);
        all(f, MAX_WIDTH, 30);
        row("width, limited above", f::width, 30, 30, 30);
        all(f, MIN_WIDTH, 120);
        row("width, limited below, wider than the parent", f::width, 120, 120, 120);
    }

    /** "the base of a child is BASIS, or its natural width if BASIS is -1". */
    private static void theBaseInARow() {
        FlexibleBoxes f = leaves(1, 2000, 600);
        f.set(1, WIDTH, 40);
        for (int basis : new int[] {0, 1, 39, 41, 1000}) {
            f.set(1, BASIS, basis);
            DUE.equal("width(1) by BASIS " + basis, f.width(1), basis);
            DUE.equal("naturalWidth(1)", f.naturalWidth(1), 40);
        }
        f.set(1, BASIS, -1);
        DUE.equal("width(1) without BASIS", f.width(1), 40);
    }

    /** "its start size is its base, limited". */
    private static void theStartSizeIsLimited() {
        FlexibleBoxes f = leaves(1, 2000, 600);
        f.set(1, BASIS, 40);
        f.set(1, MIN_WIDTH, 40);
        f.set(1, MAX_WIDTH, 40);
        DUE.equal("width(1) at its limits", f.width(1), 40);
        f.set(1, MIN_WIDTH, 41);
        DUE.equal("width(1), one too narrow", f.width(1), 41);
        f.set(1, MIN_WIDTH, 0);
        f.set(1, MAX_WIDTH, 39);
        DUE.equal("width(1), one too wide", f.width(1), 39);
    }

    /** "without WRAP there is one line with all of them". */
    private static void oneLineWithoutWrap() {
        FlexibleBoxes f = leaves(39, 0, 600);
        all(f, WIDTH, 1000);
        DUE.equal("lines(0)", f.lines(0), 1);
        DUE.equal("lineOf(39)", f.lineOf(39), 0);
        f.set(0, WRAP, 1);
        DUE.equal("lines(0) with WRAP", f.lines(0), 39);
        DUE.equal("lineOf(39) with WRAP", f.lineOf(39), 38);
    }

    private static FlexibleBoxes wrapping(int count, int width, int size) {
        FlexibleBoxes f = leaves(count, width, 600);
        f.set(0, WRAP, 1);
        all(f, WIDTH, size);
        return f;
    }

    /** "... are greater than the inner width of the parent": just as wide is not greater. */
    private static void aLineThatIsJustFull() {
        FlexibleBoxes f = wrapping(4, 90, 30);
        row("line", f::lineOf, 0, 0, 0, 1);
        f.viewport(120, 600);
        row("line", f::lineOf, 0, 0, 0, 0);
        f.viewport(30, 600);
        row("line", f::lineOf, 0, 1, 2, 3);
        f.viewport(60, 600);
        f.set(0, PADDING, 15);
        row("line beside padding", f::lineOf, 0, 1, 2, 3);
        f.viewport(90, 600);
        row("line beside padding", f::lineOf, 0, 0, 1, 1);
    }

    /** The same with one pixel less. */
    private static void aLineThatIsOneTooLong() {
        FlexibleBoxes f = wrapping(4, 89, 30);
        row("line", f::lineOf, 0, 0, 1, 1);
        f.viewport(59, 600);
        row("line", f::lineOf, 0, 1, 2, 3);
        f.viewport(119, 600);
        row("line", f::lineOf, 0, 0, 0, 1);
        DUE.equal("lines(0)", f.lines(0), 2);
    }

    /** "a child begins a new line if the present line is not empty": one that is too wide stands alone. */
    private static void theFirstOfALineAlwaysFits() {
        FlexibleBoxes f = wrapping(3, 50, 20);
        f.set(1, WIDTH, 60);
        row("line, the first too wide", f::lineOf, 0, 1, 1);
        DUE.equal("lines(0)", f.lines(0), 2);
        f.set(1, WIDTH, 20);
        f.set(2, WIDTH, 60);
        row("line, the second too wide", f::lineOf, 0, 1, 2);
        f.set(2, WIDTH, 20);
        f.set(3, WIDTH, 60);
        row("line, the third too wide", f::lineOf, 0, 0, 1);
        FlexibleBoxes one = wrapping(1, 0, 1000);
        DUE.equal("lines(0) with one that is too wide", one.lines(0), 1);
    }

    /** "the outer start sizes of the line together with this child": those of lines before do not count. */
    private static void theLineBeginsAnew() {
        FlexibleBoxes f = wrapping(6, 50, 25);
        row("line", f::lineOf, 0, 0, 1, 1, 2, 2);
        f.set(2, WIDTH, 26);
        row("line, one more in the second", f::lineOf, 0, 1, 2, 2, 3, 3);
        f.set(2, WIDTH, 24);
        f.set(4, WIDTH, 26);
        row("line, one more in the fourth", f::lineOf, 0, 0, 1, 2, 3, 3);
    }

    /** "plus GAP between each two neighbouring ones". */
    private static void gapsInALine() {
        FlexibleBoxes f = wrapping(3, 110, 30);
        f.set(0, GAP, 10);
        row("line, just full", f::lineOf, 0, 0, 0);
        f.viewport(109, 600);
        row("line, one less", f::lineOf, 0, 0, 1);
        f.viewport(70, 600);
        row("line, two just fit", f::lineOf, 0, 0, 1);
        f.viewport(69, 600);
        row("line, two do not fit", f::lineOf, 0, 1, 2);
    }

    /** "(start size + 2 * MARGIN)". */
    private static void marginsInALine() {
        FlexibleBoxes f = wrapping(2, 70, 20);
        f.set(1, MARGIN, 10);
        f.set(2, MARGIN, 5);
        row("line, just full", f::lineOf, 0, 0);
        f.viewport(69, 600);
        row("line, one less", f::lineOf, 0, 1);
    }

    /** Lines are made by the start sizes, not by the widths in the end, and not by natural widths. */
    private static void linesByStartSizes() {
        FlexibleBoxes f = wrapping(2, 60, 500);
        all(f, BASIS, 30);
        all(f, GROW, 1);
        row("line by BASIS", f::lineOf, 0, 0);
        f.set(1, MIN_WIDTH, 31);
        row("line by MIN_WIDTH", f::lineOf, 0, 1);
        row("width in lines of their own", f::width, 60, 60);
        f.set(1, MIN_WIDTH, 0);
        all(f, BASIS, 40);
        row("line by BASIS", f::lineOf, 0, 1);
        all(f, MAX_WIDTH, 30);
        row("line by MAX_WIDTH", f::lineOf, 0, 0);
        row("width in one line", f::width, 30, 30);
    }

    /** An inner width of 0, and boxes that need some. */
    private static void noSpaceForAnyLine() {
        FlexibleBoxes f = wrapping(3, 0, 1);
        row("line", f::lineOf, 0, 1, 2);
        f.viewport(5, 600);
        f.set(0, PADDING, 50);
        row("line inside padding", f::lineOf, 0, 1, 2);
        row("width inside padding", f::width, 0, 0, 0);
    }

    /** Empty boxes need nothing: all stand in one line, also in an inner width of 0. */
    private static void emptyBoxesInALine() {
        FlexibleBoxes f = wrapping(3, 0, 0);
        row("line", f::lineOf, 0, 0, 0);
        f.set(0, GAP, 1);
        row("line with GAP", f::lineOf, 0, 1, 2);
        f.viewport(1, 600);
        row("line with GAP in 1", f::lineOf, 0, 0, 1);
        f.set(0, GAP, 0);
        f.set(2, WIDTH, 1);
        row("line, just full", f::lineOf, 0, 0, 0);
        f.set(3, MARGIN, 1);
        row("line, a margin too much", f::lineOf, 0, 0, 1);
    }

    /** "The widths of the children of each line are found by FLEXING with the inner width as the space". */
    private static void theSpaceOfEachLine() {
        FlexibleBoxes f = wrapping(3, 104, 40);
        f.set(0, PADDING, 2);
        f.set(2, GROW, 1);
        f.set(3, GROW, 2);
        row("width", f::width, 40, 60, 100);
        f.set(2, GROW, 0);
        row("width, none grows in the first line", f::width, 40, 40, 100);
        f.set(3, WIDTH, 101);
        row("width, too wide for its line", f::width, 40, 40, 100);
        f.set(3, SHRINK, 0);
        row("width, too wide and kept", f::width, 40, 40, 101);
    }
}

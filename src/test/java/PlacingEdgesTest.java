/** Boundaries of JUSTIFY and ALIGNING, a test for each sentence, in rows, lines and columns. */
public final class PlacingEdgesTest extends Checks {
    private static final int[] JUSTIFIES = {START, END, CENTER, BETWEEN, EVENLY};

    public static void main(String[] args) {
        noFreeSpace();
        lessThanNoFreeSpace();
        onePixelFree();
        twoPixelsFree();
        oneBoxAlone();
        roundedDownForEachBox();
        thirtyNineBoxes();
        gapsAreNotFree();
        marginsAreNotFree();
        behindItsOwnMargin();
        eachLineByItself();
        boxesThatTakeAllSpace();
        columnsAlike();
        gapsAndMarginsInAColumn();
        noFreeSpaceAcross();
        lessThanNoFreeSpaceAcross();
        freeSpaceAcross();
        stretchedBoxesStandAtTheBeginning();
        withinTheHeightOfTheLine();
        withinTheInnerWidth();
        marginsAcross();
        marginsAcrossAColumn();
        DUE.end("PlacingEdgesTest");
    }

    private static FlexibleBoxes widths(int count, int each, int space) {
        FlexibleBoxes f = leaves(count, space, 600);
        all(f, WIDTH, each);
        all(f, SHRINK, 0);
        return f;
    }

    private static void justified(FlexibleBoxes f, int[]... due) {
        for (int mode : JUSTIFIES) {
            f.set(0, JUSTIFY, mode);
            row("x by JUSTIFY " + mode, f::x, due[mode]);
        }
    }

    /** "If it is not positive, START is used": a free space of 0. */
    private static void noFreeSpace() {
        int[] due = {0, 10, 20};
        justified(widths(3, 10, 30), due, due, due, due, due);
    }

    /** The same below 0: nothing is moved to the left. */
    private static void lessThanNoFreeSpace() {
        int[] due = {0, 10, 20};
        for (int missing : new int[] {1, 2, 3, 4, 7, 30}) {
            justified(widths(3, 10, 30 - missing), due, due, due, due, due);
        }
    }

    /** A free space of 1 is positive. */
    private static void onePixelFree() {
        justified(widths(3, 10, 31), new int[] {0, 10, 20}, new int[] {1, 11, 21},
                new int[] {0, 10, 20}, new int[] {0, 10, 21}, new int[] {0, 10, 20});
    }

    private static void twoPixelsFree() {
        justified(widths(3, 10, 32), new int[] {0, 10, 20}, new int[] {2, 12, 22},
                new int[] {1, 11, 21}, new int[] {0, 11, 22}, new int[] {0, 11, 21});
    }

    /** "BETWEEN s * k / (m - 1) (0 for m = 1)". */
    private static void oneBoxAlone() {
        justified(widths(1, 10, 31), new int[] {0}, new int[] {21}, new int[] {10}, new int[] {0}, new int[] {10});
        FlexibleBoxes f = widths(3, 10, 31);
        f.set(1, HIDDEN, 1);
        f.set(3, HIDDEN, 1);
        f.set(0, JUSTIFY, BETWEEN);
        DUE.equal("x(2) by BETWEEN beside hidden ones", f.x(2), 0);
        f.set(0, JUSTIFY, EVENLY);
        DUE.equal("x(2) by EVENLY beside hidden ones", f.x(2), 10);
    }

    /** Each box is moved by its own share, rounded down; shares are not added up. */
    private static void roundedDownForEachBox() {
        justified(widths(4, 10, 51), new int[] {0, 10, 20, 30}, new int[] {11, 21, 31, 41},
                new int[] {5, 15, 25, 35}, new int[] {0, 13, 27, 41}, new int[] {2, 14, 26, 38});
    }

    private static void thirtyNineBoxes() {
        FlexibleBoxes f = widths(39, 10, 2000);
        f.set(0, JUSTIFY, BETWEEN);
        DUE.equal("x(38) by BETWEEN", f.x(38), 370 + 1610 * 37 / 38);
        DUE.equal("x(39) by BETWEEN", f.x(39), 1990);
        f.set(0, JUSTIFY, EVENLY);
        DUE.equal("x(1) by EVENLY", f.x(1), 40);
        DUE.equal("x(39) by EVENLY", f.x(39), 380 + 1610 * 39 / 40);
    }

    /** "The free space is the space minus the outer sizes of the boxes and the GAPs". */
    private static void gapsAreNotFree() {
        FlexibleBoxes f = widths(3, 10, 50);
        f.set(0, GAP, 10);
        int[] due = {0, 20, 40};
        justified(f, due, due, due, due, due);
        f.viewport(49, 600);
        justified(f, due, due, due, due, due);
        f.viewport(52, 600);
        justified(f, due, new int[] {2, 22, 42}, new int[] {1, 21, 41}, new int[] {0, 21, 42}, new int[] {0, 21, 41});
    }

    private static void marginsAreNotFree() {
        FlexibleBoxes f = widths(2, 10, 32);
        f.set(2, MARGIN, 6);
        int[] due = {0, 16};
        justified(f, due, due, due, due, due);
        f.viewport(34, 600);
        justified(f, due, new int[] {2, 18}, new int[] {1, 17}, new int[] {0, 18}, new int[] {0, 17});
    }

    /** "The position of a box is behind its own MARGIN". */
    private static void behindItsOwnMargin() {
        FlexibleBoxes f = widths(3, 10, 100);
        f.set(1, MARGIN, 1);
        f.set(2, MARGIN, 50);
        f.set(3, MARGIN, 2);
        row("x in too little space", f::x, 1, 62, 124);
        row("y in a row", f::y, 1, 50, 2);
        f.set(0, DIRECTION, COLUMN);
        all(f, HEIGHT, 10);
        row("y in a column", f::y, 1, 62, 124);
        row("x in a column", f::x, 1, 50, 2);
    }

    /** "The children of a line stand beside each other": a line has its own free space and its own m. */
    private static void eachLineByItself() {
        FlexibleBoxes f = widths(4, 40, 90);
        f.set(0, WRAP, 1);
        f.set(4, WIDTH, 100);
        f.set(3, WIDTH, 60);
        justified(f, new int[] {0, 40, 0, 0}, new int[] {10, 50, 30, 0}, new int[] {5, 45, 15, 0},
                new int[] {0, 50, 0, 0}, new int[] {3, 46, 15, 0});
        row("line", f::lineOf, 0, 0, 1, 2);
    }

    /** Boxes that grow leave no free space, those that reach their limits do. */
    private static void boxesThatTakeAllSpace() {
        FlexibleBoxes f = widths(2, 10, 100);
        f.set(2, GROW, 1);
        int[] due = {0, 10};
        justified(f, due, due, due, due, due);
        f.set(2, MAX_WIDTH, 80);
        justified(f, due, new int[] {10, 20}, new int[] {5, 15}, new int[] {0, 20}, new int[] {3, 16});
    }

    /** "The children stand below each other, placed by JUSTIFY". */
    private static void columnsAlike() {
        int[][][] due = {
            {{0, 10, 20}, {0, 10, 20}, {0, 10, 20}, {0, 10, 20}, {0, 10, 20}},
            {{0, 10, 20}, {1, 11, 21}, {0, 10, 20}, {0, 10, 21}, {0, 10, 20}},
            {{0, 10, 20}, {2, 12, 22}, {1, 11, 21}, {0, 11, 22}, {0, 11, 21}}};
        FlexibleBoxes f = column(3, 600, 600);
        all(f, HEIGHT, 10);
        all(f, SHRINK, 0);
        for (int height = 20; height <= 32; height++) {
            f.viewport(600, height);
            for (int mode : JUSTIFIES) {
                f.set(0, JUSTIFY, mode);
                row("y by JUSTIFY " + mode + " in " + height, f::y, due[Math.max(height - 30, 0)][mode]);
            }
        }
        f.set(2, HIDDEN, 1);
        f.set(3, HIDDEN, 1);
        int[] alone = {0, 22, 11, 0, 11};
        for (int mode : JUSTIFIES) {
            f.set(0, JUSTIFY, mode);
            DUE.equal("y(1) alone by JUSTIFY " + mode, f.y(1), alone[mode]);
        }
    }

    private static void justifiedBelow(FlexibleBoxes f, int[]... due) {
        for (int mode : JUSTIFIES) {
            f.set(0, JUSTIFY, mode);
            row("y by JUSTIFY " + mode, f::y, due[mode]);
        }
    }

    /** GAPs and margins are not free in a column either, and padding is not space. */
    private static void gapsAndMarginsInAColumn() {
        FlexibleBoxes f = column(3, 600, 56);
        all(f, HEIGHT, 10);
        all(f, SHRINK, 0);
        f.set(0, GAP, 5);
        f.set(0, PADDING, 3);
        f.set(2, MARGIN, 5);
        int[] due = {3, 23, 43};
        justifiedBelow(f, due, due, due, due, due);
        f.viewport(600, 55);
        justifiedBelow(f, due, due, due, due, due);
        f.viewport(600, 58);
        justifiedBelow(f, due, new int[] {5, 25, 45}, new int[] {4, 24, 44}, new int[] {3, 24, 45},
                new int[] {3, 24, 44});
    }

    /** Boxes 1 to 4 have SELF 0 to 3: START, END, CENTER, STRETCH. */
    private static FlexibleBoxes across(int height, int space) {
        FlexibleBoxes f = leaves(4, 600, space);
        all(f, HEIGHT, height);
        for (int box = 1; box <= 4; box++) {
            f.set(box, SELF, box - 1);
        }
        return f;
    }

    /** "If it is not positive, ... the box stands at the beginning": a free space of 0. */
    private static void noFreeSpaceAcross() {
        row("y", across(20, 20)::y, 0, 0, 0, 0);
        row("y of nothing in nothing", across(0, 0)::y, 0, 0, 0, 0);
    }

    private static void lessThanNoFreeSpaceAcross() {
        for (int space : new int[] {19, 18, 17, 1, 0}) {
            row("y in " + space, across(20, space)::y, 0, 0, 0, 0);
        }
    }

    /** "for END it is moved by the free space, for CENTER by half of it", rounded down. */
    private static void freeSpaceAcross() {
        row("y beside 1", across(20, 21)::y, 0, 1, 0, 0);
        row("y beside 2", across(20, 22)::y, 0, 2, 1, 0);
        row("y beside 3", across(20, 23)::y, 0, 3, 1, 0);
        row("y of nothing", across(0, 5)::y, 0, 5, 2, 0);
    }

    /** "or the alignment is START or STRETCH": a stretched box that is limited, or fixed. */
    private static void stretchedBoxesStandAtTheBeginning() {
        FlexibleBoxes f = leaves(2, 600, 100);
        f.set(1, MAX_HEIGHT, 30);
        f.set(2, HEIGHT, 30);
        row("y", f::y, 0, 0);
        row("height", f::height, 30, 30);
        FlexibleBoxes g = column(2, 100, 600);
        g.set(1, MAX_WIDTH, 30);
        g.set(2, WIDTH, 30);
        row("x", g::x, 0, 0);
        row("width", g::width, 30, 30);
    }

    /** "Their vertical place is found by ALIGNING within the height of the line". */
    private static void withinTheHeightOfTheLine() {
        FlexibleBoxes f = across(20, 100);
        f.set(0, WRAP, 1);
        row("y in a line that is just as high", f::y, 0, 0, 0, 0);
        f.set(4, HEIGHT, 25);
        row("y in a higher line", f::y, 0, 5, 2, 0);
        f.set(4, MARGIN, 3);
        row("y in a line that is higher by a margin", f::y, 0, 11, 5, 3);
        f.set(0, WRAP, 0);
        row("y without WRAP", f::y, 0, 80, 40, 3);
        f.set(0, PADDING, 4);
        row("y inside padding", f::y, 4, 76, 40, 7);
    }

    /** "Their horizontal place is found by ALIGNING within the inner width". */
    private static void withinTheInnerWidth() {
        FlexibleBoxes f = column(4, 23, 600);
        all(f, WIDTH, 20);
        for (int box = 1; box <= 4; box++) {
            f.set(box, SELF, box - 1);
        }
        row("x beside 3", f::x, 0, 3, 1, 0);
        f.viewport(21, 600);
        row("x beside 1", f::x, 0, 1, 0, 0);
        f.viewport(20, 600);
        row("x beside nothing", f::x, 0, 0, 0, 0);
        f.viewport(18, 600);
        row("x beside less than nothing", f::x, 0, 0, 0, 0);
        f.viewport(29, 600);
        f.set(0, PADDING, 3);
        row("x beside 3, inside padding", f::x, 3, 6, 4, 3);
        f.viewport(5, 600);
        row("x, padding leaves nothing", f::x, 3, 3, 3, 3);
    }

    /** "The free space is the space minus the outer size of the box". */
    private static void marginsAcross() {
        FlexibleBoxes f = across(20, 30);
        all(f, MARGIN, 5);
        row("y beside nothing", f::y, 5, 5, 5, 5);
        f.viewport(600, 31);
        row("y beside 1", f::y, 5, 6, 5, 5);
        f.viewport(600, 32);
        row("y beside 2", f::y, 5, 7, 6, 5);
        f.viewport(600, 28);
        row("y beside less than nothing", f::y, 5, 5, 5, 5);
    }

    private static void marginsAcrossAColumn() {
        FlexibleBoxes f = column(4, 30, 600);
        all(f, WIDTH, 20);
        all(f, MARGIN, 5);
        for (int box = 1; box <= 4; box++) {
            f.set(box, SELF, box - 1);
        }
        row("x beside nothing", f::x, 5, 5, 5, 5);
        f.viewport(31, 600);
        row("x beside 1", f::x, 5, 6, 5, 5);
        f.viewport(32, 600);
        row("x beside 2", f::x, 5, 7, 6, 5);
        f.viewport(28, 600);
        row("x beside less than nothing", f::x, 5, 5, 5, 5);
    }
}

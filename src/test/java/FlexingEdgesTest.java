/** Boundaries of FLEXING, a test for each sentence; each in a row and, by heights, in a column. */
public final class FlexingEdgesTest extends Checks {
    public static void main(String[] args) {
        lessThanTheSpace();
        asMuchAsTheSpace();
        moreThanTheSpace();
        neededByStartSizes();
        noBoxes();
        oneBox();
        factorsOfNothing();
        basesOfNothingDoNotShrink();
        growingFromAboveTheLimit();
        growingFromJustTheLimit();
        shrinkingFromBelowTheLimit();
        shrinkingFromJustTheLimit();
        gapsAndMarginsAreNotShared();
        partsRoundedDownTogether();
        partsOfTheOpenBoxesAlone();
        deviationsOfSumNothing();
        deviationsOfSumAboveNothing();
        deviationsOfSumBelowNothing();
        severalRounds();
        shrinkingToNothing();
        shrinkingBelowNothing();
        theGreatestFactors();
        heightsAlike();
        eachLineByItself();
        DUE.end("FlexingEdgesTest");
    }

    private static FlexibleBoxes bases(int space, int... bases) {
        FlexibleBoxes f = leaves(bases.length, space, 600);
        for (int i = 0; i < bases.length; i++) {
            f.set(i + 1, BASIS, bases[i]);
        }
        return f;
    }

    private static void grows(FlexibleBoxes f, int... factors) {
        for (int i = 0; i < factors.length; i++) {
            f.set(i + 1, GROW, factors[i]);
        }
    }

    private static void shrinks(FlexibleBoxes f, int... factors) {
        for (int i = 0; i < factors.length; i++) {
            f.set(i + 1, SHRINK, factors[i]);
        }
    }

    /** "If the needed space is less than the space, the boxes grow, and the factor of a box is GROW". */
    private static void lessThanTheSpace() {
        FlexibleBoxes f = bases(101, 50, 50);
        grows(f, 0, 1);
        row("width", f::width, 50, 51);
        grows(f, 1, 0);
        row("width", f::width, 51, 50);
        shrinks(f, 0, 9);
        row("width, SHRINK has no say", f::width, 51, 50);
    }

    /** Just as much is not less: nothing is to be shared. */
    private static void asMuchAsTheSpace() {
        FlexibleBoxes f = bases(100, 50, 50);
        grows(f, 1, 1);
        row("width", f::width, 50, 50);
        f.viewport(0, 600);
        all(f, BASIS, 0);
        row("width of nothing in nothing", f::width, 0, 0);
    }

    /** "otherwise they shrink, and the factor is SHRINK * base". */
    private static void moreThanTheSpace() {
        FlexibleBoxes f = bases(99, 50, 50);
        shrinks(f, 0, 1);
        row("width", f::width, 50, 49);
        shrinks(f, 1, 0);
        row("width", f::width, 49, 50);
        grows(f, 9, 9);
        row("width, GROW has no say", f::width, 49, 50);
        FlexibleBoxes g = bases(100, 20, 180);
        row("width by bases", g::width, 10, 90);
        shrinks(g, 9, 1);
        row("width by bases times SHRINK", g::width, 0, 100);
        shrinks(g, 3, 1);
        row("width by bases times SHRINK", g::width, 0, 100);
        shrinks(g, 2, 1);
        row("width by bases times SHRINK", g::width, 2, 98);
    }

    /** "The needed space is the sum of the outer start sizes": limited ones. */
    private static void neededByStartSizes() {
        FlexibleBoxes f = bases(100, 80, 80);
        f.set(1, MAX_WIDTH, 19);
        grows(f, 0, 1);
        row("width, one less than the space", f::width, 19, 81);
        f.set(1, MAX_WIDTH, 20);
        row("width, as much as the space", f::width, 20, 80);
        f.set(1, MAX_WIDTH, 10000);
        FlexibleBoxes g = bases(100, 10, 10);
        grows(g, 1, 1);
        g.set(1, MIN_WIDTH, 90);
        row("width, as much as the space", g::width, 90, 10);
        g.set(1, MIN_WIDTH, 91);
        row("width, more than the space", g::width, 91, 9);
        g.set(1, MIN_WIDTH, 89);
        row("width, less than the space", g::width, 89, 11);
    }

    /** Nothing to be shared out among: no box, or hidden ones alone. */
    private static void noBoxes() {
        FlexibleBoxes f = tree(0, 1);
        f.set(2, HIDDEN, 1);
        f.set(0, WRAP, 1);
        f.set(1, WRAP, 1);
        DUE.equal("width(1)", f.width(1), 0);
        DUE.equal("lines(1)", f.lines(1), 0);
        f.set(1, DIRECTION, COLUMN);
        DUE.equal("height(1)", f.height(1), 0);
        f.set(1, HIDDEN, 1);
        DUE.equal("width(0)", f.width(0), 800);
        DUE.equal("lines(0)", f.lines(0), 0);
    }

    /** One box gets all that is to be had, or loses all that is missing. */
    private static void oneBox() {
        FlexibleBoxes f = bases(101, 50);
        row("width that does not grow", f::width, 50);
        for (int grow = 1; grow <= 9; grow++) {
            grows(f, grow);
            row("width that grows", f::width, 101);
        }
        f.viewport(7, 600);
        for (int shrink = 1; shrink <= 9; shrink++) {
            shrinks(f, shrink);
            row("width that shrinks", f::width, 7);
        }
        shrinks(f, 0);
        row("width that does not shrink", f::width, 50);
    }

    /** "Boxes are fixed with their start size if the factor is 0". */
    private static void factorsOfNothing() {
        FlexibleBoxes f = bases(100, 10, 20, 30);
        row("width, none grows", f::width, 10, 20, 30);
        f.set(2, MIN_WIDTH, 25);
        f.set(3, MAX_WIDTH, 28);
        row("width, start sizes", f::width, 10, 25, 28);
        grows(f, 1, 0, 0);
        row("width, one grows", f::width, 47, 25, 28);
        f.viewport(40, 600);
        shrinks(f, 0, 0, 0);
        row("width, none shrinks", f::width, 10, 25, 28);
        shrinks(f, 0, 0, 1);
        row("width, one shrinks", f::width, 10, 25, 5);
    }

    /** ... and SHRINK * base is 0 for a base of 0. */
    private static void basesOfNothingDoNotShrink() {
        FlexibleBoxes f = bases(50, 0, 100);
        f.set(1, MIN_WIDTH, 30);
        shrinks(f, 9, 1);
        row("width", f::width, 30, 20);
        all(f, BASIS, 0);
        f.set(2, MIN_WIDTH, 30);
        row("width, none can shrink", f::width, 30, 30);
    }

    /** "... or if they grow and the base is greater than the start size". */
    private static void growingFromAboveTheLimit() {
        FlexibleBoxes f = bases(100, 60, 10, 10);
        grows(f, 8, 1, 1);
        f.set(1, MAX_WIDTH, 50);
        f.set(2, MIN_WIDTH, 11);
        row("width", f::width, 50, 25, 25);
        f.set(1, MAX_WIDTH, 0);
        row("width", f::width, 0, 50, 50);
        // Were box 1 not fixed at first, it would balance box 4, and box 2 keep a part of 10.
        FlexibleBoxes g = bases(58, 19, 25, 7, 4);
        grows(g, 3, 3, 1, 1);
        g.set(1, MAX_WIDTH, 12);
        g.set(4, MIN_WIDTH, 13);
        row("width", g::width, 12, 25, 8, 13);
    }

    /** A base that is just the limit may be proposed more, and is limited then. */
    private static void growingFromJustTheLimit() {
        FlexibleBoxes f = bases(100, 50, 10);
        grows(f, 1, 1);
        f.set(1, MAX_WIDTH, 50);
        row("width", f::width, 50, 50);
        f.set(1, MAX_WIDTH, 51);
        row("width", f::width, 51, 49);
        f.set(1, MAX_WIDTH, 69);
        row("width", f::width, 69, 31);
        f.set(1, MAX_WIDTH, 70);
        row("width", f::width, 70, 30);
        f.set(1, MAX_WIDTH, 71);
        row("width", f::width, 70, 30);
    }

    /** "... or if they shrink and the base is less than the start size". */
    private static void shrinkingFromBelowTheLimit() {
        FlexibleBoxes f = bases(100, 10, 60, 60);
        f.set(1, MIN_WIDTH, 40);
        row("width", f::width, 40, 30, 30);
        f.set(1, MIN_WIDTH, 100);
        row("width, nothing left for the others", f::width, 100, 0, 0);
        f.set(1, MIN_WIDTH, 101);
        row("width, less than nothing left", f::width, 101, 0, 0);
        // Were box 4 not fixed at first, the others would keep parts of a greater amount.
        FlexibleBoxes g = bases(26, 28, 1, 6, 9);
        shrinks(g, 1, 2, 2, 1);
        g.set(1, MAX_WIDTH, 5);
        g.set(4, MIN_WIDTH, 19);
        row("width", g::width, 5, 1, 1, 19);
    }

    /** A base that is just the limit may be proposed less, and is limited then. */
    private static void shrinkingFromJustTheLimit() {
        FlexibleBoxes f = bases(100, 80, 80);
        f.set(1, MIN_WIDTH, 80);
        row("width", f::width, 80, 20);
        f.set(1, MIN_WIDTH, 51);
        row("width", f::width, 51, 49);
        f.set(1, MIN_WIDTH, 50);
        row("width", f::width, 50, 50);
        f.set(1, MIN_WIDTH, 49);
        row("width", f::width, 50, 50);
    }

    /** "Let r be the space, minus 2 * MARGIN of all boxes, minus all GAPs, minus ...". */
    private static void gapsAndMarginsAreNotShared() {
        FlexibleBoxes f = bases(100, 10, 10, 10);
        f.set(0, GAP, 5);
        f.set(1, MARGIN, 2);
        f.set(3, MARGIN, 3);
        grows(f, 0, 1, 0);
        row("width", f::width, 10, 60, 10);
        f.viewport(30, 600);
        shrinks(f, 0, 1, 0);
        row("width", f::width, 10, 0, 10);
        f.viewport(41, 600);
        row("width", f::width, 10, 1, 10);
        f.viewport(50, 600);
        row("width, just full", f::width, 10, 10, 10);
    }

    /** "the boxes up to and including this one get amount * f / F together", rounded down. */
    private static void partsRoundedDownTogether() {
        FlexibleBoxes f = bases(10, 0, 0, 0, 0);
        grows(f, 1, 1, 1, 1);
        row("width, 10 in 4", f::width, 2, 3, 2, 3);
        f.viewport(11, 600);
        row("width, 11 in 4", f::width, 2, 3, 3, 3);
        f.viewport(1, 600);
        row("width, 1 in 4", f::width, 0, 0, 0, 1);
        f.viewport(3, 600);
        row("width, 3 in 4", f::width, 0, 1, 1, 1);
        f.viewport(0, 600);
        row("width, 0 in 4", f::width, 0, 0, 0, 0);
        grows(f, 9, 1, 1, 9);
        f.viewport(7, 600);
        row("width, 7 in 20", f::width, 3, 0, 0, 4);
        FlexibleBoxes g = bases(38, 10, 10, 10, 10);
        row("width, 2 less in 4", g::width, 10, 9, 10, 9);
        g.viewport(37, 600);
        row("width, 3 less in 4", g::width, 10, 9, 9, 9);
    }

    /** "The amount is divided among the boxes that are not fixed": f counts no fixed box. */
    private static void partsOfTheOpenBoxesAlone() {
        FlexibleBoxes f = bases(20, 0, 3, 0, 0);
        grows(f, 1, 0, 1, 1);
        row("width, 17 in 3", f::width, 5, 3, 6, 6);
        grows(f, 1, 9, 1, 1);
        f.set(2, MAX_WIDTH, 2);
        row("width, 18 in 3", f::width, 6, 2, 6, 6);
        f.viewport(21, 600);
        row("width, 19 in 3", f::width, 6, 2, 6, 7);
    }

    /** "If the sum of all deviations is 0, all of these boxes are fixed with their proposed sizes, limited". */
    private static void deviationsOfSumNothing() {
        FlexibleBoxes f = bases(102, 0, 0, 0, 0);
        grows(f, 1, 1, 1, 1);
        row("width without deviations", f::width, 25, 26, 25, 26);
        f.set(1, MAX_WIDTH, 20);
        f.set(4, MIN_WIDTH, 31);
        row("width, one 5 less and one 5 more", f::width, 20, 26, 25, 31);
    }

    /** "If it is greater than 0, those with a deviation greater than 0 are fixed so". */
    private static void deviationsOfSumAboveNothing() {
        FlexibleBoxes f = bases(102, 0, 0, 0, 0);
        grows(f, 1, 1, 1, 1);
        f.set(1, MAX_WIDTH, 20);
        f.set(4, MIN_WIDTH, 60);
        // First box 4 alone is fixed; then 42 in 3 are less than 20 for box 1.
        row("width", f::width, 14, 14, 14, 60);
        f.set(4, MIN_WIDTH, 32);
        // 70 in 3 are more than 20 for box 1.
        row("width", f::width, 20, 25, 25, 32);
    }

    /** "if it is less than 0, those with a deviation less than 0". */
    private static void deviationsOfSumBelowNothing() {
        FlexibleBoxes f = bases(100, 0, 0, 0, 0);
        grows(f, 1, 1, 1, 1);
        f.set(1, MAX_WIDTH, 4);
        f.set(4, MIN_WIDTH, 30);
        // First box 1 alone is fixed; then 96 in 3 are more than 30 for box 4.
        row("width", f::width, 4, 32, 32, 32);
        f.set(1, MAX_WIDTH, 19);
        // 81 in 3 are less than 30 for box 4.
        row("width", f::width, 19, 25, 26, 30);
    }

    /** "Then the following is repeated as long as some boxes are not fixed": once for each box here. */
    private static void severalRounds() {
        FlexibleBoxes f = bases(1000, 0, 0, 0, 0);
        grows(f, 1, 1, 1, 1);
        f.set(1, MAX_WIDTH, 240);
        f.set(2, MAX_WIDTH, 252);
        f.set(3, MAX_WIDTH, 253);
        row("width", f::width, 240, 252, 253, 255);
        f.set(4, MAX_WIDTH, 254);
        row("width, all limited", f::width, 240, 252, 253, 254);
        FlexibleBoxes g = bases(400, 1000, 1000, 1000, 1000);
        g.set(1, MIN_WIDTH, 110);
        g.set(2, MIN_WIDTH, 97);
        g.set(3, MIN_WIDTH, 96);
        row("width", g::width, 110, 97, 97, 96);
        g.set(1, MIN_WIDTH, 140);
        g.set(2, MIN_WIDTH, 90);
        g.set(3, MIN_WIDTH, 86);
        row("width", g::width, 140, 90, 86, 84);
        FlexibleBoxes many = leaves(39, 2000, 600);
        all(many, GROW, 1);
        for (int box = 1; box <= 39; box++) {
            many.set(box, MAX_WIDTH, box);
        }
        DUE.equal("width(1)", many.width(1), 1);
        DUE.equal("width(39)", many.width(39), 39);
        DUE.equal("x(39)", many.x(39), 38 * 39 / 2);
    }

    /** All of a base may be taken, so that its size is 0. */
    private static void shrinkingToNothing() {
        FlexibleBoxes f = bases(0, 30, 1, 1000);
        row("width", f::width, 0, 0, 0);
        f.viewport(20, 600);
        f.set(0, GAP, 10);
        row("width, GAPs take the space", f::width, 0, 0, 0);
        f.viewport(21, 600);
        row("width, one is left", f::width, 1, 0, 0);
    }

    /** A proposed size below 0 is limited to MIN_WIDTH, which is 0 at least. */
    private static void shrinkingBelowNothing() {
        FlexibleBoxes f = bases(19, 30, 60, 10);
        f.set(0, GAP, 10);
        row("width, GAPs take more than the space", f::width, 0, 0, 0);
        all(f, MARGIN, 50);
        row("width, margins take more than the space", f::width, 0, 0, 0);
        row("x", f::x, 50, 160, 270);
        f.set(2, MIN_WIDTH, 5);
        row("width, one of 5 at least", f::width, 0, 5, 0);
    }

    /** The greatest numbers that can come together: amounts times factors far above those of int. */
    private static void theGreatestFactors() {
        FlexibleBoxes f = leaves(39, 39, 600);
        all(f, TEXT, 500);
        all(f, SHRINK, 9);
        for (int box = 1; box <= 39; box++) {
            DUE.equal("width(" + box + ")", f.width(box), 1);
        }
        f.viewport(1950, 600);
        for (int box = 1; box <= 39; box++) {
            DUE.equal("width(" + box + ")", f.width(box), 50);
            DUE.equal("x(" + box + ")", f.x(box), 50 * (box - 1));
        }
        FlexibleBoxes g = leaves(39, 1950, 600);
        all(g, GROW, 9);
        DUE.equal("x(39)", g.x(39), 1900);
        DUE.equal("width(39)", g.width(39), 50);
    }

    /** The same in a column, by heights. */
    private static void heightsAlike() {
        FlexibleBoxes f = column(4, 100, 102);
        all(f, GROW, 1);
        all(f, BASIS, 0);
        row("height, 102 in 4", f::height, 25, 26, 25, 26);
        f.set(1, MAX_HEIGHT, 20);
        f.set(4, MIN_HEIGHT, 31);
        row("height, one 5 less and one 5 more", f::height, 20, 26, 25, 31);
        f.set(4, MIN_HEIGHT, 60);
        row("height, one fixed first", f::height, 14, 14, 14, 60);
        f.set(4, MIN_HEIGHT, 0);
        all(f, BASIS, 30);
        f.set(1, SHRINK, 0);
        row("height, one above its limit", f::height, 20, 28, 27, 27);
        f.viewport(100, 109);
        row("height, one too much", f::height, 20, 30, 30, 29);
        f.viewport(100, 110);
        row("height, just full", f::height, 20, 30, 30, 30);
        f.viewport(100, 111);
        row("height, one to share", f::height, 20, 30, 30, 31);
        f.set(0, GAP, 40);
        row("height, GAPs take more than the space", f::height, 20, 0, 0, 0);
    }

    /** "of the children of each line": the needed space and the shares are those of the line. */
    private static void eachLineByItself() {
        FlexibleBoxes f = bases(100, 60, 30, 101, 100, 99);
        f.set(0, WRAP, 1);
        grows(f, 0, 1, 1, 1, 1);
        row("line", f::lineOf, 0, 0, 1, 2, 3);
        row("width", f::width, 60, 40, 100, 100, 100);
    }
}

/** Boundaries of the paragraph TREE and of promises 1 to 6, a test for each sentence that names one. */
public final class TreeEdgesTest extends Checks {
    public static void main(String[] args) {
        theRootAlone();
        thirtyNineBoxes();
        thirtyNineBelowEachOther();
        numbersInTheOrderOfAdding();
        theLastChild();
        numbersAreNotUsedAgain();
        removedBoxesCount();
        allBoxesBelowAreRemoved();
        removingALeaf();
        hiddenBoxesAreRemovedToo();
        theNumberOfBoxes();
        noParentOfTheRoot();
        aContainerOfHiddenBoxes();
        aLeafAgain();
        hiddenAsIfItDidNotExist();
        hiddenWithAllBelow();
        theEndsOfOrder();
        equalOrderByNumber();
        theNumberOfChildren();
        noSuchIndex();
        childrenOfAHiddenBox();
        DUE.end("TreeEdgesTest");
    }

    /** "Box 0 is the root; it exists at first, without children"; "The root alone, a viewport of 800 by 600". */
    private static void theRootAlone() {
        FlexibleBoxes f = new FlexibleBoxes();
        DUE.equal("boxes()", f.boxes(), 1);
        DUE.equal("child(0, -1)", f.child(0, -1), 0);
        DUE.equal("child(0, 0)", f.child(0, 0), NONE);
        DUE.equal("hit(799, 599)", f.hit(799, 599), 0);
        DUE.equal("hit(800, 599)", f.hit(800, 599), NONE);
        DUE.equal("hit(799, 600)", f.hit(799, 600), NONE);
    }

    /** "Up to 39 further boxes can be added". */
    private static void thirtyNineBoxes() {
        FlexibleBoxes f = new FlexibleBoxes();
        for (int box = 1; box <= 39; box++) {
            DUE.equal("add(0)", f.add(0), box);
        }
        DUE.equal("boxes()", f.boxes(), 40);
        DUE.equal("child(0, -1)", f.child(0, -1), 39);
        DUE.equal("child(0, 38)", f.child(0, 38), 39);
        all(f, WIDTH, 20);
        DUE.equal("x(39)", f.x(39), 38 * 20);
        DUE.equal("hit(779, 0)", f.hit(779, 0), 39);
        DUE.equal("set(39, TEXT, 5)", f.set(39, TEXT, 5), 0);
        DUE.state("add(0)", () -> f.add(0));
        DUE.equal("boxes()", f.boxes(), 40);
    }

    /** The same, each as a child of the one before. */
    private static void thirtyNineBelowEachOther() {
        FlexibleBoxes f = new FlexibleBoxes();
        for (int box = 1; box <= 39; box++) {
            DUE.equal("add(" + (box - 1) + ")", f.add(box - 1), box);
        }
        all(f, GROW, 1);
        all(f, MARGIN, 1);
        DUE.equal("x(39)", f.x(39), 39);
        DUE.equal("y(39)", f.y(39), 39);
        DUE.equal("width(39)", f.width(39), 800 - 78);
        DUE.equal("height(39)", f.height(39), 600 - 78);
        DUE.equal("hit(39, 39)", f.hit(39, 39), 39);
        DUE.equal("hit(38, 39)", f.hit(38, 39), 38);
        f.set(39, TEXT, 1);
        DUE.equal("naturalWidth(0)", f.naturalWidth(0), 8 + 78);
        DUE.equal("naturalHeight(0)", f.naturalHeight(0), 16 + 78);
        DUE.state("add(39)", () -> f.add(39));
        f.set(1, HIDDEN, 1);
        DUE.state("x(39), 38 below the hidden box", () -> f.x(39));
        DUE.equal("remove(1)", f.remove(1), 39);
        DUE.equal("boxes()", f.boxes(), 1);
    }

    /** "they are numbered 1, 2, 3, ... in the order in which they are added", wherever they stand. */
    private static void numbersInTheOrderOfAdding() {
        FlexibleBoxes f = new FlexibleBoxes();
        DUE.equal("add(0)", f.add(0), 1);
        DUE.equal("add(0)", f.add(0), 2);
        DUE.equal("add(2)", f.add(2), 3);
        DUE.equal("add(1)", f.add(1), 4);
        DUE.equal("add(3)", f.add(3), 5);
        DUE.equal("parent(4)", f.parent(4), 1);
        DUE.equal("parent(5)", f.parent(5), 3);
    }

    /** "each as the last child of a box that exists". */
    private static void theLastChild() {
        FlexibleBoxes f = tree(0, 0, 1, 2, 1);
        DUE.equal("child(1, 0)", f.child(1, 0), 3);
        DUE.equal("child(1, 1)", f.child(1, 1), 5);
        DUE.equal("child(1, 2)", f.child(1, 2), NONE);
        f.remove(3);
        DUE.equal("add(1)", f.add(1), 6);
        DUE.equal("child(1, 0)", f.child(1, 0), 5);
        DUE.equal("child(1, 1)", f.child(1, 1), 6);
        f.remove(6);
        DUE.index("add(6), removed", () -> f.add(6));
        DUE.equal("add(5)", f.add(5), 7);
    }

    /** "numbers are not used again". */
    private static void numbersAreNotUsedAgain() {
        FlexibleBoxes f = tree(0, 0);
        f.remove(2);
        DUE.equal("add(0) when the last one was removed", f.add(0), 3);
        f.remove(1);
        f.remove(3);
        DUE.equal("boxes()", f.boxes(), 1);
        DUE.equal("add(0) when all were removed", f.add(0), 4);
        DUE.index("parent(3)", () -> f.parent(3));
        DUE.equal("child(0, 0)", f.child(0, 0), 4);
        DUE.equal("child(0, -1)", f.child(0, -1), 1);
    }

    /** "if 39 boxes were added already": those that were removed count. */
    private static void removedBoxesCount() {
        FlexibleBoxes f = new FlexibleBoxes();
        for (int box = 1; box <= 39; box++) {
            DUE.equal("add(0)", f.add(0), box);
            DUE.equal("remove(" + box + ")", f.remove(box), 1);
        }
        DUE.state("add(0), with the root alone", () -> f.add(0));
        DUE.equal("boxes()", f.boxes(), 1);
        DUE.equal("child(0, -1)", f.child(0, -1), 0);
    }

    /** "A box can be removed, together with all boxes below it"; "Returns how many boxes were removed". */
    private static void allBoxesBelowAreRemoved() {
        FlexibleBoxes f = tree(0, 1, 0, 2, 3, 4, 2, 1);
        DUE.equal("remove(2)", f.remove(2), 4);
        for (int box : new int[] {2, 4, 6, 7}) {
            DUE.index("parent(" + box + ")", () -> f.parent(box));
        }
        DUE.equal("parent(8), beside", f.parent(8), 1);
        DUE.equal("parent(5), elsewhere", f.parent(5), 3);
        DUE.equal("boxes()", f.boxes(), 5);
        DUE.equal("child(1, 0)", f.child(1, 0), 8);
        DUE.equal("child(1, 1)", f.child(1, 1), NONE);
        DUE.equal("remove(1)", f.remove(1), 2);
        DUE.equal("boxes()", f.boxes(), 3);
    }

    /** The same for a box with nothing below it. */
    private static void removingALeaf() {
        FlexibleBoxes f = tree(0, 0);
        DUE.equal("remove(1)", f.remove(1), 1);
        DUE.equal("boxes()", f.boxes(), 2);
        DUE.index("remove(1) again", () -> f.remove(1));
        DUE.equal("parent(2)", f.parent(2), 0);
    }

    /** Hidden boxes exist: they can be removed, and are removed with those above them. */
    private static void hiddenBoxesAreRemovedToo() {
        FlexibleBoxes f = tree(0, 1, 2, 1);
        f.set(2, HIDDEN, 1);
        DUE.equal("boxes()", f.boxes(), 5);
        DUE.equal("remove(1)", f.remove(1), 4);
        FlexibleBoxes g = tree(0, 1);
        g.set(1, HIDDEN, 1);
        DUE.equal("remove(2), below a hidden box", g.remove(2), 1);
        DUE.equal("remove(1), hidden", g.remove(1), 1);
    }

    /** "Returns the number of boxes that exist, the root included". */
    private static void theNumberOfBoxes() {
        FlexibleBoxes f = new FlexibleBoxes();
        DUE.equal("boxes() of a root alone", f.boxes(), 1);
        f.add(0);
        DUE.equal("boxes()", f.boxes(), 2);
        f.set(1, HIDDEN, 1);
        DUE.equal("boxes() with a hidden one", f.boxes(), 2);
        f.set(0, HIDDEN, 1);
        DUE.equal("boxes() with a root that says hidden", f.boxes(), 2);
        f.remove(1);
        DUE.equal("boxes() behind remove", f.boxes(), 1);
    }

    /** "Returns the parent of a box, NONE for the root". */
    private static void noParentOfTheRoot() {
        FlexibleBoxes f = tree(0, 1, 1);
        DUE.equal("parent(0)", f.parent(0), NONE);
        DUE.equal("parent(1)", f.parent(1), 0);
        DUE.equal("parent(2)", f.parent(2), 1);
        DUE.equal("parent(3)", f.parent(3), 1);
    }

    /** "A box is a container if it has children (also if all of them are hidden)". */
    private static void aContainerOfHiddenBoxes() {
        FlexibleBoxes f = tree(0, 1);
        f.set(1, TEXT, 10);
        f.set(1, MAX_WIDTH, 7);
        f.set(1, MAX_HEIGHT, 0);
        DUE.equal("overflow(1), the child has no size", f.overflow(1), 0);
        f.set(2, HIDDEN, 1);
        DUE.equal("naturalWidth(1)", f.naturalWidth(1), 0);
        DUE.equal("naturalHeight(1)", f.naturalHeight(1), 0);
        DUE.equal("lines(1)", f.lines(1), 0);
        DUE.equal("overflow(1)", f.overflow(1), 0);
        DUE.equal("widthFor(1, 0)", f.widthFor(1, 0), 0);
        f.set(1, DIRECTION, COLUMN);
        DUE.equal("naturalWidth(1) of a column", f.naturalWidth(1), 0);
        DUE.equal("lines(1) of a column", f.lines(1), 0);
        DUE.equal("overflow(1) of a column", f.overflow(1), 0);
    }

    /** "... and a leaf otherwise": when its last child is removed, the text is there again. */
    private static void aLeafAgain() {
        FlexibleBoxes f = tree(0, 1, 1);
        f.set(1, TEXT, 10);
        f.set(3, HIDDEN, 1);
        f.remove(2);
        DUE.equal("naturalWidth(1) with a hidden child left", f.naturalWidth(1), 0);
        f.remove(3);
        DUE.equal("naturalWidth(1)", f.naturalWidth(1), 80);
        DUE.equal("lines(1)", f.lines(1), 1);
        f.add(1);
        DUE.equal("naturalWidth(1) of a container again", f.naturalWidth(1), 0);
        DUE.equal("lines(1) of a container again", f.lines(1), 1);
    }

    /** "A box that is hidden is left out of the layout ..., as if it did not exist". */
    private static void hiddenAsIfItDidNotExist() {
        FlexibleBoxes f = leaves(3, 200, 100);
        f.set(0, GAP, 10);
        f.set(0, JUSTIFY, BETWEEN);
        all(f, WIDTH, 40);
        all(f, HEIGHT, 10);
        f.set(2, HEIGHT, 90);
        f.set(2, MARGIN, 3);
        f.set(2, GROW, 9);
        f.set(2, HIDDEN, 1);
        DUE.equal("x(1)", f.x(1), 0);
        DUE.equal("x(3)", f.x(3), 160);
        DUE.equal("width(3)", f.width(3), 40);
        DUE.equal("naturalWidth(0)", f.naturalWidth(0), 90);
        DUE.equal("naturalHeight(0)", f.naturalHeight(0), 10);
        f.viewport(90, 5);
        f.set(0, WRAP, 1);
        DUE.equal("lines(0)", f.lines(0), 1);
        f.set(3, HEIGHT, 5);
        f.set(1, HEIGHT, 5);
        DUE.equal("overflow(0)", f.overflow(0), 0);
        f.set(0, DIRECTION, COLUMN);
        DUE.equal("lineOf(3)", f.lineOf(3), 1);
        DUE.equal("lines(0) of a column", f.lines(0), 2);
        DUE.equal("naturalHeight(0) of a column", f.naturalHeight(0), 20);
        f.set(2, HIDDEN, 0);
        DUE.equal("lines(0) when it is shown again", f.lines(0), 3);
    }

    /** "... with all boxes below it". */
    private static void hiddenWithAllBelow() {
        FlexibleBoxes f = tree(0, 1, 2, 3);
        all(f, GROW, 1);
        DUE.equal("hit(9, 9)", f.hit(9, 9), 4);
        f.set(2, HIDDEN, 1);
        DUE.equal("hit(9, 9) without box 2", f.hit(9, 9), 1);
        DUE.state("width(2)", () -> f.width(2));
        DUE.state("width(3)", () -> f.width(3));
        DUE.state("width(4)", () -> f.width(4));
        f.set(4, HIDDEN, 1);
        f.set(2, HIDDEN, 0);
        DUE.equal("hit(9, 9) without box 4", f.hit(9, 9), 3);
        DUE.state("width(4)", () -> f.width(4));
    }

    /** "The visual order of the children of a box is by the property ORDER", -9 to 9. */
    private static void theEndsOfOrder() {
        FlexibleBoxes f = leaves(5, 100, 100);
        all(f, WIDTH, 10);
        int[] orders = {9, -1, 0, -9, 1};
        for (int box = 1; box <= 5; box++) {
            f.set(box, ORDER, orders[box - 1]);
        }
        int[] due = {4, 2, 3, 5, 1};
        for (int index = 0; index < 5; index++) {
            DUE.equal("child(0, " + index + ")", f.child(0, index), due[index]);
            DUE.equal("x(" + due[index] + ")", f.x(due[index]), 10 * index);
        }
    }

    /** "... those with equal ORDER by number", however they came to it. */
    private static void equalOrderByNumber() {
        FlexibleBoxes f = leaves(4, 100, 100);
        f.set(4, ORDER, -2);
        f.set(2, ORDER, -2);
        f.set(3, ORDER, -2);
        f.set(1, ORDER, -3);
        f.set(1, ORDER, -2);
        for (int index = 0; index < 4; index++) {
            DUE.equal("child(0, " + index + ")", f.child(0, index), index + 1);
        }
        f.set(2, ORDER, -1);
        DUE.equal("child(0, 3)", f.child(0, 3), 2);
        f.set(2, ORDER, -2);
        DUE.equal("child(0, 1)", f.child(0, 1), 2);
        DUE.equal("add(0), last by ORDER 0", f.add(0), 5);
        DUE.equal("child(0, 4)", f.child(0, 4), 5);
        f.set(1, ORDER, 1);
        DUE.equal("add(0), before box 1", f.add(0), 6);
        DUE.equal("child(0, 5)", f.child(0, 5), 1);
    }

    /** "-1 for the number of these children": those that are not hidden. */
    private static void theNumberOfChildren() {
        FlexibleBoxes f = tree(0, 0, 1);
        DUE.equal("child(0, -1)", f.child(0, -1), 2);
        DUE.equal("child(1, -1)", f.child(1, -1), 1);
        DUE.equal("child(3, -1) of a leaf", f.child(3, -1), 0);
        f.set(2, HIDDEN, 1);
        DUE.equal("child(0, -1) with one hidden", f.child(0, -1), 1);
        f.set(1, HIDDEN, 1);
        DUE.equal("child(0, -1) with both hidden", f.child(0, -1), 0);
    }

    /** "NONE if there is no such index". */
    private static void noSuchIndex() {
        FlexibleBoxes f = tree(0, 0, 0);
        DUE.equal("child(0, 2)", f.child(0, 2), 3);
        DUE.equal("child(0, 3)", f.child(0, 3), NONE);
        f.set(1, HIDDEN, 1);
        DUE.equal("child(0, 0) with one hidden", f.child(0, 0), 2);
        DUE.equal("child(0, 2) with one hidden", f.child(0, 2), NONE);
        DUE.equal("child(0, 39)", f.child(0, 39), NONE);
        DUE.equal("child(0, 40)", f.child(0, 40), NONE);
        DUE.equal("child(0, -2)", f.child(0, -2), NONE);
        DUE.equal("child(0, greatest int)", f.child(0, Integer.MAX_VALUE), NONE);
        DUE.equal("child(0, least int)", f.child(0, Integer.MIN_VALUE), NONE);
        DUE.equal("child(1, 0) of a leaf", f.child(1, 0), NONE);
    }

    /** child throws nothing for a hidden box: it has children that are not hidden by themselves. */
    private static void childrenOfAHiddenBox() {
        FlexibleBoxes f = tree(0, 1, 1, 2);
        f.set(1, HIDDEN, 1);
        f.set(2, ORDER, 1);
        DUE.equal("child(1, -1)", f.child(1, -1), 2);
        DUE.equal("child(1, 0)", f.child(1, 0), 3);
        DUE.equal("child(1, 1)", f.child(1, 1), 2);
        DUE.equal("child(2, 0), below a hidden box", f.child(2, 0), 4);
        f.set(4, HIDDEN, 1);
        DUE.equal("child(2, 0), hidden too", f.child(2, 0), NONE);
    }
}

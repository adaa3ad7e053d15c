/** Promises 1 to 6: a new object, add, remove, boxes, parent, child. */
public final class TreeTest {
    private static final Due DUE = new Due();

    public static void main(String[] args) {
        newObject();
        adding();
        addingTooMany();
        removing();
        removingMakesLeaves();
        parents();
        childrenInVisualOrder();
        childrenOfHiddenBoxes();
        DUE.end("TreeTest");
    }

    private static void newObject() {
        FlexibleBoxes f = new FlexibleBoxes();
        DUE.equal("boxes()", f.boxes(), 1);
        DUE.equal("parent(0)", f.parent(0), -1);
        DUE.equal("child(0, -1)", f.child(0, -1), 0);
        DUE.equal("x(0)", f.x(0), 0);
        DUE.equal("y(0)", f.y(0), 0);
        DUE.equal("width(0)", f.width(0), 800);
        DUE.equal("height(0)", f.height(0), 600);
        DUE.equal("lines(0)", f.lines(0), 0);
        DUE.equal("lineOf(0)", f.lineOf(0), 0);
        DUE.equal("overflow(0)", f.overflow(0), 0);
        DUE.equal("naturalWidth(0)", f.naturalWidth(0), 0);
        DUE.equal("naturalHeight(0)", f.naturalHeight(0), 0);
        int[] first = {0, 0, 0, 3, 0, 0, 0, -1, 0, 1, -1, -1, 0, 0, 10000, 10000, -1, 0, 0, 0};
        for (int property = 0; property < 20; property++) {
            DUE.equal("get(0, " + property + ")", f.get(0, property), first[property]);
        }
        DUE.index("get(1, 0)", () -> f.get(1, 0));
        DUE.state("restore(0)", () -> Due.done(() -> f.restore(0)));
        DUE.state("restore(1)", () -> Due.done(() -> f.restore(1)));
    }

    private static void adding() {
        FlexibleBoxes f = new FlexibleBoxes();
        DUE.equal("add(0)", f.add(0), 1);
        DUE.equal("add(1)", f.add(1), 2);
        DUE.equal("add(0)", f.add(0), 3);
        DUE.equal("boxes()", f.boxes(), 4);
        DUE.equal("child(0, 0)", f.child(0, 0), 1);
        DUE.equal("child(0, 1)", f.child(0, 1), 3);
        DUE.equal("add(0) behind a question", f.add(0), 4);
        DUE.equal("child(0, 2)", f.child(0, 2), 4);
        DUE.equal("x(4)", f.x(4), 0);
        DUE.equal("remove(4)", f.remove(4), 1);
        DUE.equal("child(0, 2)", f.child(0, 2), -1);
        DUE.equal("get(3, ALIGN)", f.get(3, FlexibleBoxes.ALIGN), 3);
        DUE.equal("get(3, MAX_HEIGHT)", f.get(3, FlexibleBoxes.MAX_HEIGHT), 10000);
        String before = Due.picture(f);
        DUE.index("add(4), a removed one", () -> f.add(4));
        DUE.index("add(5)", () -> f.add(5));
        DUE.index("add(-1)", () -> f.add(-1));
        DUE.index("add(40)", () -> f.add(40));
        DUE.index("add(least int)", () -> f.add(Integer.MIN_VALUE));
        DUE.index("add(greatest int)", () -> f.add(Integer.MAX_VALUE));
        DUE.same("what refused calls leave", Due.picture(f), before);
    }

    private static void addingTooMany() {
        FlexibleBoxes f = new FlexibleBoxes();
        for (int box = 1; box <= 39; box++) {
            DUE.equal("add to a chain", f.add(box - 1), box);
        }
        DUE.equal("boxes()", f.boxes(), 40);
        DUE.state("add(39)", () -> f.add(39));
        DUE.index("add(40)", () -> f.add(40));
        DUE.equal("remove(20)", f.remove(20), 20);
        DUE.equal("boxes()", f.boxes(), 20);
        DUE.state("add(0) though some were removed", () -> f.add(0));
        DUE.index("add(20)", () -> f.add(20));
        DUE.equal("boxes()", f.boxes(), 20);
    }

    private static void removing() {
        FlexibleBoxes f = new FlexibleBoxes();
        f.add(0);
        f.add(1);
        f.add(2);
        f.add(1);
        f.add(0);
        f.add(3);
        DUE.equal("remove(2)", f.remove(2), 3);
        DUE.equal("boxes()", f.boxes(), 4);
        DUE.index("parent(3)", () -> f.parent(3));
        DUE.index("parent(6)", () -> f.parent(6));
        DUE.index("remove(2)", () -> f.remove(2));
        DUE.index("remove(6)", () -> f.remove(6));
        DUE.index("remove(-1)", () -> f.remove(-1));
        DUE.index("remove(40)", () -> f.remove(40));
        DUE.equal("child(1, 0)", f.child(1, 0), 4);
        DUE.equal("child(1, -1)", f.child(1, -1), 1);
        DUE.equal("add(4)", f.add(4), 7);
        DUE.equal("parent(7)", f.parent(7), 4);
        String before = Due.picture(f);
        DUE.argument("remove(0)", () -> f.remove(0));
        DUE.same("what a refused remove leaves", Due.picture(f), before);
        f.set(4, FlexibleBoxes.HIDDEN, 1);
        DUE.equal("remove(1), hidden boxes below it too", f.remove(1), 3);
        DUE.equal("boxes()", f.boxes(), 2);
    }

    private static void removingMakesLeaves() {
        FlexibleBoxes f = new FlexibleBoxes();
        f.add(0);
        f.add(1);
        f.set(1, FlexibleBoxes.TEXT, 10);
        DUE.equal("naturalWidth(1) of a container", f.naturalWidth(1), 0);
        f.set(2, FlexibleBoxes.HIDDEN, 1);
        DUE.equal("naturalWidth(1) with a hidden child", f.naturalWidth(1), 0);
        DUE.equal("lines(1) with a hidden child", f.lines(1), 0);
        DUE.equal("remove(2)", f.remove(2), 1);
        DUE.equal("naturalWidth(1) of a leaf", f.naturalWidth(1), 80);
        DUE.equal("lines(1) of a leaf", f.lines(1), 1);
    }

    private static void parents() {
        FlexibleBoxes f = new FlexibleBoxes();
        f.add(0);
        f.add(1);
        f.set(1, FlexibleBoxes.HIDDEN, 1);
        DUE.equal("parent(0)", f.parent(0), FlexibleBoxes.NONE);
        DUE.equal("parent(1)", f.parent(1), 0);
        DUE.equal("parent(2) below a hidden box", f.parent(2), 1);
        DUE.index("parent(3)", () -> f.parent(3));
        DUE.index("parent(-1)", () -> f.parent(-1));
        DUE.index("parent(40)", () -> f.parent(40));
    }

    private static void childrenInVisualOrder() {
        FlexibleBoxes f = new FlexibleBoxes();
        for (int box = 1; box <= 6; box++) {
            f.add(0);
        }
        f.set(1, FlexibleBoxes.ORDER, 2);
        f.set(3, FlexibleBoxes.ORDER, -9);
        f.set(4, FlexibleBoxes.ORDER, 2);
        f.set(5, FlexibleBoxes.ORDER, -9);
        int[] due = {3, 5, 2, 6, 1, 4};
        for (int index = 0; index < 6; index++) {
            DUE.equal("child(0, " + index + ")", f.child(0, index), due[index]);
        }
        DUE.equal("child(0, -1)", f.child(0, -1), 6);
        DUE.equal("child(0, 6)", f.child(0, 6), -1);
        DUE.equal("child(0, -2)", f.child(0, -2), -1);
        DUE.equal("child(0, least int)", f.child(0, Integer.MIN_VALUE), -1);
        DUE.equal("child(0, greatest int)", f.child(0, Integer.MAX_VALUE), -1);
        f.set(5, FlexibleBoxes.HIDDEN, 1);
        DUE.equal("child(0, 1) without a hidden one", f.child(0, 1), 2);
        DUE.equal("child(0, -1) without a hidden one", f.child(0, -1), 5);
        DUE.equal("child(0, 5) without a hidden one", f.child(0, 5), -1);
        DUE.index("child(7, 0)", () -> f.child(7, 0));
        DUE.index("child(-1, -1)", () -> f.child(-1, -1));
    }

    private static void childrenOfHiddenBoxes() {
        FlexibleBoxes f = new FlexibleBoxes();
        f.add(0);
        f.add(1);
        f.add(1);
        f.set(1, FlexibleBoxes.HIDDEN, 1);
        DUE.equal("child(1, -1) of a hidden box", f.child(1, -1), 2);
        DUE.equal("child(1, 1) of a hidden box", f.child(1, 1), 3);
        f.set(0, FlexibleBoxes.HIDDEN, 1);
        DUE.equal("child(0, -1) of a root that says hidden", f.child(0, -1), 0);
    }
}

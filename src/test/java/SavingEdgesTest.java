/** Boundaries of promises 22 and 23: what is saved, where, and what comes back. */
public final class SavingEdgesTest extends Checks {
    public static void main(String[] args) {
        nothingSavedAtFirst();
        bothSlots();
        overwritten();
        theSlotKeepsIt();
        laterCallsDoNotReachTheSlot();
        saveChangesNothing();
        allProperties();
        theViewport();
        theTree();
        removedBoxes();
        addedBoxes();
        aNewObject();
        aFullObject();
        theNumbering();
        fullOnlySinceThen();
        fromSlotToSlot();
        objectsAreApart();
        DUE.end("SavingEdgesTest");
    }

    /** "nothing saved" in a new object, in either slot. */
    private static void nothingSavedAtFirst() {
        for (int slot = 0; slot <= 1; slot++) {
            int s = slot;
            FlexibleBoxes f = new FlexibleBoxes();
            DUE.state("restore(" + s + ")", () -> Due.done(() -> f.restore(s)));
            f.save(1 - s);
            DUE.state("restore(" + s + ") behind save(" + (1 - s) + ")", () -> Due.done(() -> f.restore(s)));
            f.save(s);
            f.restore(s);
            f.restore(1 - s);
            DUE.equal("boxes()", f.boxes(), 1);
        }
    }

    /** "slot: 0 or 1": each has its own. */
    private static void bothSlots() {
        FlexibleBoxes f = new FlexibleBoxes();
        f.set(0, GAP, 1);
        f.save(0);
        f.set(0, GAP, 2);
        f.save(1);
        f.set(0, GAP, 3);
        f.restore(0);
        DUE.equal("get(0, GAP) of slot 0", f.get(0, GAP), 1);
        f.restore(1);
        DUE.equal("get(0, GAP) of slot 1", f.get(0, GAP), 2);
        f.restore(0);
        DUE.equal("get(0, GAP) of slot 0 again", f.get(0, GAP), 1);
    }

    /** "and overwrites what was saved there". */
    private static void overwritten() {
        FlexibleBoxes f = tree(0, 0);
        f.set(1, TEXT, 10);
        f.save(0);
        f.remove(1);
        f.set(2, TEXT, 20);
        f.viewport(100, 100);
        f.save(0);
        f.add(0);
        f.restore(0);
        DUE.equal("boxes()", f.boxes(), 2);
        DUE.index("get(1, TEXT)", () -> f.get(1, TEXT));
        DUE.equal("get(2, TEXT)", f.get(2, TEXT), 20);
        DUE.equal("width(0)", f.width(0), 100);
    }

    /** "Restores what was saved last in a slot, which keeps it". */
    private static void theSlotKeepsIt() {
        FlexibleBoxes f = tree(0);
        f.set(1, TEXT, 10);
        f.save(1);
        String saved = Due.picture(f);
        for (int times = 0; times < 3; times++) {
            f.set(1, TEXT, 20 + times);
            f.add(1);
            f.viewport(5, 5);
            f.restore(1);
            DUE.same("what is restored", Due.picture(f), saved);
        }
        f.restore(1);
        DUE.same("what is restored twice in a row", Due.picture(f), saved);
    }

    /** What is changed behind save or restore is changed in the object alone. */
    private static void laterCallsDoNotReachTheSlot() {
        FlexibleBoxes f = tree(0, 1);
        f.save(0);
        f.restore(0);
        f.set(1, GAP, 5);
        f.copyStyle(1, 2);
        f.remove(2);
        f.viewport(1, 1);
        f.restore(0);
        DUE.equal("get(1, GAP)", f.get(1, GAP), 0);
        DUE.equal("get(2, GAP)", f.get(2, GAP), 0);
        DUE.equal("parent(2)", f.parent(2), 1);
        DUE.equal("width(0)", f.width(0), 800);
        DUE.equal("height(0)", f.height(0), 600);
    }

    private static void saveChangesNothing() {
        FlexibleBoxes f = tree(0, 1, 0);
        f.set(1, TEXT, 5);
        f.set(3, HIDDEN, 1);
        f.remove(2);
        f.viewport(77, 66);
        String before = Due.picture(f);
        f.save(0);
        f.save(0);
        f.save(1);
        DUE.same("what save leaves", Due.picture(f), before);
        DUE.equal("the next number", f.add(0), 4);
    }

    /** "all properties": of all boxes, the root too. */
    private static void allProperties() {
        int[] other = {1, 1, 4, 0, 50, 49, 48, 1000, 9, 0, 999, 998, 997, 996, 995, 994, 2, -9, 1, 500};
        FlexibleBoxes f = tree(0);
        for (int p = 0; p < 20; p++) {
            f.set(0, p, other[p]);
            f.set(1, p, other[p]);
        }
        f.save(0);
        int[] first = new int[20];
        FlexibleBoxes g = new FlexibleBoxes();
        for (int p = 0; p < 20; p++) {
            first[p] = g.get(0, p);
            f.set(0, p, first[p]);
            f.set(1, p, first[p]);
        }
        f.save(1);
        f.restore(0);
        for (int p = 0; p < 20; p++) {
            DUE.equal("get(0, " + p + ") of slot 0", f.get(0, p), other[p]);
            DUE.equal("get(1, " + p + ") of slot 0", f.get(1, p), other[p]);
        }
        f.restore(1);
        for (int p = 0; p < 20; p++) {
            DUE.equal("get(0, " + p + ") of slot 1", f.get(0, p), first[p]);
            DUE.equal("get(1, " + p + ") of slot 1", f.get(1, p), first[p]);
        }
    }

    /** "and the viewport": at its ends too. */
    private static void theViewport() {
        FlexibleBoxes f = tree(0);
        f.set(1, GROW, 1);
        f.viewport(0, 2000);
        f.save(0);
        f.viewport(2000, 0);
        f.save(1);
        f.restore(0);
        DUE.equal("width(1) of slot 0", f.width(1), 0);
        DUE.equal("height(1) of slot 0", f.height(1), 2000);
        f.restore(1);
        DUE.equal("width(1) of slot 1", f.width(1), 2000);
        DUE.equal("height(1) of slot 1", f.height(1), 0);
    }

    /** "the tree": which boxes exist, and below which. */
    private static void theTree() {
        FlexibleBoxes f = tree(0, 1, 1, 0);
        f.set(3, ORDER, -1);
        f.save(0);
        f.remove(1);
        f.add(4);
        f.restore(0);
        DUE.equal("boxes()", f.boxes(), 5);
        DUE.equal("parent(2)", f.parent(2), 1);
        DUE.equal("parent(3)", f.parent(3), 1);
        DUE.equal("parent(4)", f.parent(4), 0);
        DUE.equal("child(1, 0)", f.child(1, 0), 3);
        DUE.equal("child(1, 1)", f.child(1, 1), 2);
        DUE.equal("child(0, -1)", f.child(0, -1), 2);
        DUE.equal("child(4, -1)", f.child(4, -1), 0);
    }

    /** Boxes that were removed before save are not there behind restore, those removed later are. */
    private static void removedBoxes() {
        FlexibleBoxes f = tree(0, 1, 0);
        f.remove(1);
        f.save(0);
        f.remove(3);
        f.restore(0);
        DUE.equal("boxes()", f.boxes(), 2);
        DUE.index("x(1)", () -> f.x(1));
        DUE.index("x(2)", () -> f.x(2));
        DUE.equal("x(3)", f.x(3), 0);
        DUE.equal("remove(3)", f.remove(3), 1);
    }

    /** Boxes that were added behind save are not there behind restore. */
    private static void addedBoxes() {
        FlexibleBoxes f = tree(0);
        f.set(1, TEXT, 3);
        f.save(0);
        f.add(1);
        f.add(0);
        DUE.equal("naturalWidth(1) of a container", f.naturalWidth(1), 0);
        f.restore(0);
        DUE.equal("boxes()", f.boxes(), 2);
        DUE.index("x(2)", () -> f.x(2));
        DUE.index("x(3)", () -> f.x(3));
        DUE.equal("naturalWidth(1) of a leaf", f.naturalWidth(1), 24);
    }

    /** A root alone can be saved and restored. */
    private static void aNewObject() {
        FlexibleBoxes f = new FlexibleBoxes();
        String before = Due.picture(f);
        f.save(0);
        for (int box = 1; box <= 39; box++) {
            f.add(box - 1);
            f.set(box, HIDDEN, 1);
        }
        f.set(0, PADDING, 50);
        f.restore(0);
        DUE.same("a root alone, restored", Due.picture(f), before);
    }

    /** All 40 boxes can be saved and restored. */
    private static void aFullObject() {
        FlexibleBoxes f = leaves(20, 800, 600);
        for (int box = 21; box <= 39; box++) {
            f.add(box - 1);
        }
        for (int box = 0; box <= 39; box++) {
            f.set(box, TEXT, box);
            f.set(box, PADDING, box % 3);
            f.set(box, ORDER, box % 5);
        }
        String before = Due.picture(f);
        f.save(1);
        for (int box = 1; box <= 20; box++) {
            f.remove(box);
        }
        DUE.equal("boxes()", f.boxes(), 1);
        f.restore(1);
        DUE.same("a full object, restored", Due.picture(f), before);
        DUE.state("add(0)", () -> f.add(0));
    }

    /** The numbering is taken as a part of the tree: it goes on as at save. */
    private static void theNumbering() {
        FlexibleBoxes f = tree(0, 0);
        f.save(0);
        f.add(0);
        f.set(3, TEXT, 9);
        f.restore(0);
        DUE.equal("add(1)", f.add(1), 3);
        DUE.equal("get(3, TEXT) of a new box", f.get(3, TEXT), 0);
        DUE.equal("parent(3)", f.parent(3), 1);
        f.remove(3);
        f.save(0);
        f.restore(0);
        DUE.equal("add(0), no number is used again", f.add(0), 4);
    }

    /** "if 39 boxes were added already": as many as in the tree that was saved. */
    private static void fullOnlySinceThen() {
        FlexibleBoxes f = leaves(38, 800, 600);
        f.save(0);
        DUE.equal("add(0)", f.add(0), 39);
        DUE.state("add(0)", () -> f.add(0));
        f.save(1);
        f.restore(0);
        DUE.equal("boxes() of slot 0", f.boxes(), 39);
        DUE.equal("add(38) of slot 0", f.add(38), 39);
        f.restore(1);
        DUE.equal("parent(39) of slot 1", f.parent(39), 0);
        DUE.state("add(0) of slot 1", () -> f.add(0));
    }

    /** What was restored from one slot can be saved in the other. */
    private static void fromSlotToSlot() {
        FlexibleBoxes f = tree(0);
        f.save(0);
        f.remove(1);
        f.restore(0);
        f.save(1);
        f.set(1, GAP, 9);
        f.save(0);
        f.restore(1);
        DUE.equal("get(1, GAP) of slot 1", f.get(1, GAP), 0);
        f.restore(0);
        DUE.equal("get(1, GAP) of slot 0", f.get(1, GAP), 9);
    }

    /** Slots belong to their object. */
    private static void objectsAreApart() {
        FlexibleBoxes f = tree(0);
        FlexibleBoxes g = tree(0, 0);
        f.save(0);
        DUE.state("restore(0) of another object", () -> Due.done(() -> g.restore(0)));
        g.save(0);
        g.set(1, GAP, 4);
        f.restore(0);
        DUE.equal("boxes()", f.boxes(), 2);
        DUE.equal("get(1, GAP)", f.get(1, GAP), 0);
        g.restore(0);
        DUE.equal("boxes() of the other", g.boxes(), 3);
    }
}

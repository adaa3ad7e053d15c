/** Promises 22 and 23: save, restore. */
public final class SavingTest {
    private static final Due DUE = new Due();

    public static void main(String[] args) {
        wrongSlots();
        allComesBack();
        slotsAreApart();
        numbersComeBack();
        DUE.end("SavingTest");
    }

    private static void wrongSlots() {
        FlexibleBoxes f = new FlexibleBoxes();
        DUE.argument("save(-1)", () -> Due.done(() -> f.save(-1)));
        DUE.argument("save(2)", () -> Due.done(() -> f.save(2)));
        DUE.argument("restore(-1)", () -> Due.done(() -> f.restore(-1)));
        DUE.argument("restore(2)", () -> Due.done(() -> f.restore(2)));
        DUE.state("restore(0)", () -> Due.done(() -> f.restore(0)));
        f.save(0);
        f.add(0);
        DUE.state("restore(1)", () -> Due.done(() -> f.restore(1)));
        DUE.equal("boxes()", f.boxes(), 2);
        f.restore(0);
        DUE.equal("boxes()", f.boxes(), 1);
    }

    private static void allComesBack() {
        FlexibleBoxes f = new FlexibleBoxes();
        f.add(0);
        f.add(1);
        f.add(0);
        f.add(3);
        f.remove(1);
        f.set(3, FlexibleBoxes.TEXT, 9);
        f.set(4, FlexibleBoxes.TEXT, 30);
        f.set(4, FlexibleBoxes.ORDER, -3);
        f.viewport(333, 222);
        String before = Due.picture(f);
        f.save(1);
        DUE.same("what save leaves", Due.picture(f), before);
        f.add(4);
        f.set(4, FlexibleBoxes.TEXT, 31);
        f.set(0, FlexibleBoxes.PADDING, 9);
        f.viewport(1, 2);
        f.remove(3);
        f.restore(1);
        DUE.same("what restore brings back", Due.picture(f), before);
        f.set(3, FlexibleBoxes.HIDDEN, 1);
        f.restore(1);
        DUE.same("what a second restore brings back", Due.picture(f), before);
    }

    private static void slotsAreApart() {
        FlexibleBoxes f = new FlexibleBoxes();
        f.save(0);
        f.add(0);
        f.viewport(10, 20);
        f.save(1);
        f.restore(0);
        DUE.equal("boxes()", f.boxes(), 1);
        DUE.equal("width(0)", f.width(0), 800);
        f.restore(1);
        DUE.equal("boxes()", f.boxes(), 2);
        DUE.equal("width(0)", f.width(0), 10);
        DUE.equal("height(0)", f.height(0), 20);
        f.set(1, FlexibleBoxes.TEXT, 5);
        f.save(0);
        f.set(1, FlexibleBoxes.TEXT, 6);
        f.restore(0);
        DUE.equal("get(1, TEXT) from an overwritten slot", f.get(1, FlexibleBoxes.TEXT), 5);
        f.restore(1);
        DUE.equal("get(1, TEXT) from the other slot", f.get(1, FlexibleBoxes.TEXT), 0);
    }

    /** The numbering is taken as a part of the tree: boxes added after save were never added. */
    private static void numbersComeBack() {
        FlexibleBoxes f = new FlexibleBoxes();
        f.add(0);
        f.add(0);
        f.remove(2);
        f.save(0);
        DUE.equal("add(0)", f.add(0), 3);
        f.set(3, FlexibleBoxes.GROW, 5);
        for (int box = 4; box <= 39; box++) {
            f.add(0);
        }
        DUE.state("add(0)", () -> f.add(0));
        f.restore(0);
        DUE.index("get(3, GROW)", () -> f.get(3, FlexibleBoxes.GROW));
        DUE.index("get(2, GROW)", () -> f.get(2, FlexibleBoxes.GROW));
        DUE.equal("add(1) after restore", f.add(1), 3);
        DUE.equal("parent(3)", f.parent(3), 1);
        DUE.equal("get(3, GROW)", f.get(3, FlexibleBoxes.GROW), 0);
        f.save(1);
        f.restore(0);
        DUE.equal("add(0) after restore", f.add(0), 3);
        DUE.equal("parent(3)", f.parent(3), 0);
        f.restore(1);
        DUE.equal("parent(3)", f.parent(3), 1);
    }
}

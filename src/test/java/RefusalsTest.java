import java.util.function.IntSupplier;
import java.util.function.IntUnaryOperator;

/** Every sentence "Throws ... if ...", the order of these, and that a refused call changes nothing. */
public final class RefusalsTest extends Checks {
    /** The first number not given yet, a removed one, one too many, and the ends of int. */
    private static final int[] MISSING = {6, 5, 39, 40, -1, Integer.MIN_VALUE, Integer.MAX_VALUE};

    public static void main(String[] args) {
        boxesThatDoNotExist();
        boxesThatAreHidden();
        theRootThatSaysHidden();
        boxesThatWereAddedAlready();
        theRootIsNotRemoved();
        propertiesThatAreNotThere();
        valuesOutOfTheirRanges();
        viewportsOutOfTheirRange();
        linesOutOfTheirRange();
        slotsThatAreNotThere();
        slotsWithNothingSaved();
        theFirstOneThatApplies();
        refusedCallsChangeNothing();
        aRefusedFirstCall();
        DUE.end("RefusalsTest");
    }

    /** Box 5 was removed, boxes 3 and 4 are hidden, slot 0 has an older state, slot 1 nothing. */
    private static FlexibleBoxes some() {
        FlexibleBoxes f = tree(0, 1, 0, 3);
        f.set(2, TEXT, 30);
        f.save(0);
        f.add(0);
        f.remove(5);
        f.set(3, HIDDEN, 1);
        f.set(1, GROW, 2);
        f.set(1, PADDING, 3);
        f.set(0, WRAP, 1);
        f.viewport(300, 200);
        return f;
    }

    private static void missing(String method, IntUnaryOperator asked) {
        for (int box : MISSING) {
            DUE.index(method + " with box " + box, () -> asked.applyAsInt(box));
        }
    }

    /** "Throws IndexOutOfBoundsException if the box (the parent, one of the boxes) does not exist". */
    private static void boxesThatDoNotExist() {
        FlexibleBoxes f = some();
        missing("add", f::add);
        missing("remove", f::remove);
        missing("parent", f::parent);
        missing("child at 0", box -> f.child(box, 0));
        missing("child at -1", box -> f.child(box, -1));
        missing("child where none is", box -> f.child(box, 7));
        missing("set", box -> f.set(box, GAP, 1));
        missing("get", box -> f.get(box, GAP));
        missing("copyStyle from", box -> f.copyStyle(box, 1));
        missing("copyStyle to", box -> f.copyStyle(1, box));
        missing("copyStyle of one", box -> f.copyStyle(box, box));
        missing("x", f::x);
        missing("y", f::y);
        missing("width", f::width);
        missing("height", f::height);
        missing("naturalWidth", f::naturalWidth);
        missing("naturalHeight", f::naturalHeight);
        missing("lines", f::lines);
        missing("lineOf", f::lineOf);
        missing("overflow", f::overflow);
        missing("widthFor", box -> f.widthFor(box, 1));
    }

    /** Box 3 is hidden itself, box 4 stands below it. */
    private static void hidden(String method, FlexibleBoxes f, IntUnaryOperator asked) {
        for (int box = 3; box <= 4; box++) {
            int b = box;
            DUE.state(method + " with box " + box, () -> asked.applyAsInt(b));
        }
        DUE.equal(method + " is refused for a box beside", Due.outcome(() -> asked.applyAsInt(2)).indexOf("throws"), -1);
    }

    /** "Throws IllegalStateException if it, or a box above it other than the root, is hidden". */
    private static void boxesThatAreHidden() {
        FlexibleBoxes f = some();
        hidden("x", f, f::x);
        hidden("y", f, f::y);
        hidden("width", f, f::width);
        hidden("height", f, f::height);
        hidden("naturalWidth", f, f::naturalWidth);
        hidden("naturalHeight", f, f::naturalHeight);
        hidden("lines", f, f::lines);
        hidden("lineOf", f, f::lineOf);
        hidden("overflow", f, f::overflow);
        hidden("widthFor", f, box -> f.widthFor(box, 1));
        DUE.equal("parent(4) is not refused", f.parent(4), 3);
        DUE.equal("child(3, 0) is not refused", f.child(3, 0), 4);
        DUE.equal("set(4, GAP, 1) is not refused", f.set(4, GAP, 1), 0);
        DUE.equal("get(4, GAP) is not refused", f.get(4, GAP), 1);
        DUE.equal("copyStyle(4, 3) is not refused", f.copyStyle(4, 3), 1);
        DUE.equal("add(4) is not refused", f.add(4), 6);
        DUE.state("width(6), two below the hidden box", () -> f.width(6));
        f.set(4, HIDDEN, 1);
        f.set(3, HIDDEN, 0);
        DUE.equal("lineOf(3) is shown again", f.lineOf(3), 0);
        DUE.state("width(4), hidden by itself", () -> f.width(4));
        DUE.state("width(6), below it", () -> f.width(6));
        DUE.equal("remove(4) is not refused", f.remove(4), 2);
    }

    /** "... or a box above it other than the root, is hidden": HIDDEN of the root has no effect. */
    private static void theRootThatSaysHidden() {
        FlexibleBoxes f = some();
        f.set(0, HIDDEN, 1);
        for (int box = 0; box <= 2; box++) {
            int b = box;
            DUE.equal("x(" + box + ")", f.x(b), box == 2 ? 3 : 0);
            DUE.equal("y(" + box + ")", f.y(b), box == 2 ? 3 : 0);
            DUE.equal("width(" + box + ")", f.width(b), box == 2 ? 240 : 300);
            DUE.equal("lineOf(" + box + ")", f.lineOf(b), 0);
            DUE.equal("widthFor(" + box + ", 100)", f.widthFor(b, 100), 0);
            DUE.equal("overflow(" + box + ")", f.overflow(b), 0);
        }
        DUE.equal("height(0)", f.height(0), 200);
        DUE.equal("naturalWidth(0)", f.naturalWidth(0), 246);
        DUE.equal("naturalHeight(0)", f.naturalHeight(0), 22);
        DUE.equal("lines(0)", f.lines(0), 1);
        DUE.state("x(3)", () -> f.x(3));
    }

    /** "Throws IllegalStateException if 39 boxes were added already". */
    private static void boxesThatWereAddedAlready() {
        FlexibleBoxes f = leaves(38, 800, 600);
        DUE.equal("the 39th add", f.add(0), 39);
        DUE.state("the 40th add", () -> f.add(0));
        DUE.state("the 40th add, to another box", () -> f.add(39));
        f.remove(39);
        DUE.state("add when 38 are left of 39", () -> f.add(0));
        DUE.equal("boxes()", f.boxes(), 39);
    }

    /** "Throws IllegalArgumentException if it is the root". */
    private static void theRootIsNotRemoved() {
        FlexibleBoxes f = some();
        DUE.argument("remove(0)", () -> f.remove(0));
        DUE.equal("boxes()", f.boxes(), 5);
        FlexibleBoxes alone = new FlexibleBoxes();
        DUE.argument("remove(0) of a root alone", () -> alone.remove(0));
        DUE.equal("boxes()", alone.boxes(), 1);
    }

    /** "Throws IllegalArgumentException if there is no such property". */
    private static void propertiesThatAreNotThere() {
        FlexibleBoxes f = some();
        for (int property : new int[] {-1, 20, Integer.MIN_VALUE, Integer.MAX_VALUE}) {
            DUE.argument("get(1, " + property + ")", () -> f.get(1, property));
            for (int value = -1; value <= 1; value++) {
                int v = value;
                DUE.argument("set(1, " + property + ", " + v + ")", () -> f.set(1, property, v));
            }
        }
    }

    /** "... or the value is out of its range", for each property, of the root too. */
    private static void valuesOutOfTheirRanges() {
        FlexibleBoxes f = some();
        int[] below = {-1, -1, -1, -1, -1, -1, -1, -2, -1, -1, -2, -2, -1, -1, -1, -1, -2, -10, -1, -1};
        int[] above = {2, 2, 5, 4, 51, 51, 51, 1001, 10, 10, 1001, 1001, 1001, 1001, 10001, 10001, 4, 10, 2, 501};
        for (int p = 0; p < 20; p++) {
            int property = p;
            for (int b = 0; b <= 1; b++) {
                int box = b;
                int before = f.get(box, p);
                for (int value : new int[] {below[p], above[p], Integer.MIN_VALUE, Integer.MAX_VALUE}) {
                    DUE.argument("set(" + box + ", " + p + ", " + value + ")", () -> f.set(box, property, value));
                }
                DUE.equal("get(" + box + ", " + p + ")", f.get(box, p), before);
                DUE.equal("set to the least", f.set(box, p, below[p] + 1), before);
                DUE.equal("set to the greatest", f.set(box, p, above[p] - 1), below[p] + 1);
                DUE.equal("set back", f.set(box, p, before), above[p] - 1);
            }
        }
    }

    /** "Throws IllegalArgumentException if width or height is not 0 to 2000". */
    private static void viewportsOutOfTheirRange() {
        FlexibleBoxes f = some();
        for (int wrong : new int[] {-1, 2001, Integer.MIN_VALUE, Integer.MAX_VALUE}) {
            DUE.argument("viewport(" + wrong + ", 5)", () -> Due.done(() -> f.viewport(wrong, 5)));
            DUE.argument("viewport(5, " + wrong + ")", () -> Due.done(() -> f.viewport(5, wrong)));
            DUE.argument("viewport, both wrong", () -> Due.done(() -> f.viewport(wrong, wrong)));
        }
        DUE.equal("width(0)", f.width(0), 300);
        DUE.equal("height(0)", f.height(0), 200);
    }

    /** "Throws IllegalArgumentException if n is out of range". */
    private static void linesOutOfTheirRange() {
        FlexibleBoxes f = some();
        for (int wrong : new int[] {-1, 101, Integer.MIN_VALUE, Integer.MAX_VALUE}) {
            DUE.argument("widthFor(2, " + wrong + ")", () -> f.widthFor(2, wrong));
        }
        DUE.equal("widthFor(2, 0)", f.widthFor(2, 0), -1);
        DUE.equal("widthFor(2, 100)", f.widthFor(2, 100), 0);
    }

    /** "Throws IllegalArgumentException if there is no such slot". */
    private static void slotsThatAreNotThere() {
        FlexibleBoxes f = some();
        for (int wrong : new int[] {-1, 2, Integer.MIN_VALUE, Integer.MAX_VALUE}) {
            DUE.argument("save(" + wrong + ")", () -> Due.done(() -> f.save(wrong)));
            DUE.argument("restore(" + wrong + ")", () -> Due.done(() -> f.restore(wrong)));
        }
    }

    /** "Throws IllegalStateException if nothing was saved in it". */
    private static void slotsWithNothingSaved() {
        FlexibleBoxes f = new FlexibleBoxes();
        DUE.state("restore(0)", () -> Due.done(() -> f.restore(0)));
        DUE.state("restore(1)", () -> Due.done(() -> f.restore(1)));
        f.save(1);
        DUE.state("restore(0) when slot 1 has something", () -> Due.done(() -> f.restore(0)));
        f.restore(1);
        DUE.state("restore(0) behind restore(1)", () -> Due.done(() -> f.restore(0)));
        f.save(0);
        f.restore(0);
        DUE.equal("boxes()", f.boxes(), 1);
    }

    /** "Each method names the exceptions ... in the order in which they are checked". */
    private static void theFirstOneThatApplies() {
        FlexibleBoxes full = leaves(39, 800, 600);
        DUE.index("add: no parent, and 39 added", () -> full.add(40));
        full.remove(39);
        DUE.index("add: a removed parent, and 39 added", () -> full.add(39));
        FlexibleBoxes f = some();
        DUE.index("set: no box, no property", () -> f.set(6, 20, 0));
        DUE.index("set: no box, a value out of range", () -> f.set(5, GAP, 51));
        DUE.index("get: no box, no property", () -> f.get(6, -1));
        DUE.index("widthFor: no box, n out of range", () -> f.widthFor(6, 101));
        DUE.index("widthFor: a removed box, n out of range", () -> f.widthFor(5, -1));
        DUE.argument("widthFor: n out of range, a hidden box", () -> f.widthFor(3, 101));
        DUE.argument("widthFor: n out of range, below a hidden box", () -> f.widthFor(4, -1));
        FlexibleBoxes g = new FlexibleBoxes();
        DUE.argument("restore: no slot, and nothing saved", () -> Due.done(() -> g.restore(2)));
    }

    private static void refused(FlexibleBoxes f, IntSupplier call) {
        DUE.equal("the call is refused", Due.outcome(call).indexOf("throws"), 0);
    }

    /** "A call that throws an exception changes nothing": a twin that never made the calls is the same. */
    private static void refusedCallsChangeNothing() {
        FlexibleBoxes f = some();
        FlexibleBoxes twin = some();
        for (int box : MISSING) {
            refused(f, () -> f.add(box));
            refused(f, () -> f.remove(box));
            refused(f, () -> f.set(box, GAP, 1));
            refused(f, () -> f.copyStyle(box, 2));
            refused(f, () -> f.copyStyle(1, box));
            refused(f, () -> f.widthFor(box, 1));
        }
        refused(f, () -> f.remove(0));
        refused(f, () -> f.set(1, 20, 1));
        refused(f, () -> f.set(1, GAP, 51));
        refused(f, () -> Due.done(() -> f.viewport(5, 2001)));
        refused(f, () -> Due.done(() -> f.viewport(2001, 5)));
        refused(f, () -> f.x(3));
        refused(f, () -> f.widthFor(2, 101));
        refused(f, () -> f.widthFor(3, 1));
        refused(f, () -> Due.done(() -> f.save(2)));
        refused(f, () -> Due.done(() -> f.save(-1)));
        refused(f, () -> Due.done(() -> f.restore(2)));
        refused(f, () -> Due.done(() -> f.restore(1)));
        DUE.same("what the calls leave", Due.picture(f), Due.picture(twin));
        DUE.equal("the next number", f.add(0), twin.add(0));
        f.restore(0);
        twin.restore(0);
        DUE.same("what the calls leave in slot 0", Due.picture(f), Due.picture(twin));
        DUE.state("what the calls leave in slot 1", () -> Due.done(() -> f.restore(1)));
    }

    /** A new object is the same behind refused calls, and a full one too. */
    private static void aRefusedFirstCall() {
        FlexibleBoxes f = new FlexibleBoxes();
        refused(f, () -> f.add(1));
        refused(f, () -> f.remove(0));
        refused(f, () -> Due.done(() -> f.restore(0)));
        DUE.same("a new object behind refused calls", Due.picture(f), Due.picture(new FlexibleBoxes()));
        DUE.equal("the first number", f.add(0), 1);
        FlexibleBoxes full = leaves(39, 800, 600);
        String before = Due.picture(full);
        refused(full, () -> full.add(0));
        refused(full, () -> full.add(39));
        DUE.same("a full object behind refused calls", Due.picture(full), before);
    }
}

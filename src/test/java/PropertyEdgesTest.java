import java.util.function.Consumer;
import java.util.function.IntSupplier;

/** Boundaries of the paragraph PROPERTIES and of promises 7 to 10, a test for each sentence. */
public final class PropertyEdgesTest extends Checks {
    private static final int[] FIRST = {
        0, 0, 0, 3, 0, 0, 0, -1, 0, 1, -1, -1, 0, 0, 10000, 10000, -1, 0, 0, 0};
    private static final int[] LEAST = {
        0, 0, 0, 0, 0, 0, 0, -1, 0, 0, -1, -1, 0, 0, 0, 0, -1, -9, 0, 0};
    private static final int[] GREATEST = {
        1, 1, 4, 3, 50, 50, 50, 1000, 9, 9, 1000, 1000, 1000, 1000, 10000, 10000, 3, 9, 1, 500};

    public static void main(String[] args) {
        firstValues();
        endsOfTheRanges();
        thePreviousValue();
        oneBoxAlone();
        noWrapInAColumn();
        paddingAndMarginOnAllSides();
        fixedAtNothing();
        basisOfNothing();
        selfOrAlign();
        valuesOfAlignAndJustify();
        textOfAContainer();
        propertiesWithoutEffectOnTheRoot();
        propertiesWithEffectOnTheRoot();
        theSmallerWidthLimitPrevails();
        theSmallerHeightLimitPrevails();
        lengthsAtTheirLimits();
        theGreatestLimit();
        allButThreeAreCopied();
        copiesThatChangeNothing();
        copiesCountDifferences();
        copiesFromAndToTheRoot();
        viewportsAtTheirEnds();
        theFirstViewport();
        thePresentLayout();
        DUE.end("PropertyEdgesTest");
    }

    /** "the values in parentheses are the range and the first value": of the root and of each added box. */
    private static void firstValues() {
        FlexibleBoxes f = new FlexibleBoxes();
        for (int p = 0; p < 20; p++) {
            f.set(0, p, GREATEST[p] == FIRST[p] ? LEAST[p] : GREATEST[p]);
        }
        f.add(0);
        f.copyStyle(0, 1);
        f.remove(1);
        f.add(0);
        FlexibleBoxes g = new FlexibleBoxes();
        for (int p = 0; p < 20; p++) {
            DUE.equal("get(2, " + p + ") of a new box", f.get(2, p), FIRST[p]);
            DUE.equal("get(0, " + p + ") of a new object", g.get(0, p), FIRST[p]);
        }
    }

    /** The ranges have both their ends, for the root and for another box. */
    private static void endsOfTheRanges() {
        FlexibleBoxes f = tree(0);
        for (int p = 0; p < 20; p++) {
            for (int box = 0; box <= 1; box++) {
                f.set(box, p, LEAST[p]);
                DUE.equal("get(" + box + ", " + p + "), the least", f.get(box, p), LEAST[p]);
                f.set(box, p, GREATEST[p]);
                DUE.equal("get(" + box + ", " + p + "), the greatest", f.get(box, p), GREATEST[p]);
            }
        }
    }

    /** "Returns the previous value": also when it stays the same. */
    private static void thePreviousValue() {
        FlexibleBoxes f = tree(0);
        DUE.equal("set(1, TEXT, 500)", f.set(1, TEXT, 500), 0);
        DUE.equal("set(1, TEXT, 500) again", f.set(1, TEXT, 500), 500);
        DUE.equal("set(1, TEXT, 0)", f.set(1, TEXT, 0), 500);
        DUE.equal("set(1, ORDER, -9)", f.set(1, ORDER, -9), 0);
        DUE.equal("set(1, ORDER, 9)", f.set(1, ORDER, 9), -9);
        DUE.equal("set(1, SELF, -1)", f.set(1, SELF, NONE), NONE);
    }

    /** "Sets a property of a box": of no other one, and no other property. */
    private static void oneBoxAlone() {
        FlexibleBoxes f = tree(0, 1);
        for (int p = 0; p < 20; p++) {
            int other = GREATEST[p] == FIRST[p] ? LEAST[p] : GREATEST[p];
            f.set(1, p, other);
            for (int q = 0; q < 20; q++) {
                DUE.equal("get(0, " + q + ")", f.get(0, q), FIRST[q]);
                DUE.equal("get(1, " + q + ")", f.get(1, q), q == p ? other : FIRST[q]);
                DUE.equal("get(2, " + q + ")", f.get(2, q), FIRST[q]);
            }
            f.set(1, p, FIRST[p]);
        }
    }

    /** "WRAP ... has no effect in a column". */
    private static void noWrapInAColumn() {
        FlexibleBoxes g = column(2, 100, 50);
        g.set(0, GAP, 5);
        all(g, TEXT, 7);
        String before = layoutOf(g);
        g.set(0, WRAP, 1);
        DUE.same("a column with WRAP", layoutOf(g), before);
        FlexibleBoxes f = column(3, 100, 50);
        all(f, HEIGHT, 40);
        all(f, WIDTH, 30);
        all(f, SHRINK, 0);
        f.set(0, WRAP, 1);
        row("y in a column with WRAP", f::y, 0, 40, 80);
        row("x in a column with WRAP", f::x, 0, 0, 0);
        row("line in a column with WRAP", f::lineOf, 0, 1, 2);
        DUE.equal("naturalHeight(0)", f.naturalHeight(0), 120);
        DUE.equal("naturalWidth(0)", f.naturalWidth(0), 30);
        DUE.equal("widthFor(0, 2)", f.widthFor(0, 2), NONE);
    }

    /** "padding and margin are the same on all four sides". */
    private static void paddingAndMarginOnAllSides() {
        FlexibleBoxes f = tree(0, 1);
        f.viewport(100, 60);
        all(f, GROW, 1);
        f.set(1, MARGIN, 4);
        f.set(1, PADDING, 6);
        row("x", f::x, 4, 10);
        row("y", f::y, 4, 10);
        row("width", f::width, 92, 80);
        row("height", f::height, 52, 40);
    }

    /** "WIDTH, HEIGHT ...: a fixed size, or -1 for none": 0 is a fixed size. */
    private static void fixedAtNothing() {
        FlexibleBoxes f = column(1, 100, 100);
        f.set(1, TEXT, 5);
        f.set(1, WIDTH, 0);
        DUE.equal("width(1), fixed at 0", f.width(1), 0);
        DUE.equal("naturalWidth(1), fixed at 0", f.naturalWidth(1), 0);
        f.set(1, HEIGHT, 0);
        DUE.equal("height(1), fixed at 0", f.height(1), 0);
        DUE.equal("naturalHeight(1), fixed at 0", f.naturalHeight(1), 0);
        f.set(0, DIRECTION, ROW);
        DUE.equal("width(1) in a row", f.width(1), 0);
        DUE.equal("height(1) in a row", f.height(1), 0);
        f.set(1, WIDTH, -1);
        f.set(1, HEIGHT, -1);
        DUE.equal("width(1), not fixed", f.width(1), 40);
        DUE.equal("height(1), not fixed", f.height(1), 100);
    }

    /** BASIS from -1 on: 0 is a basis, -1 is none. */
    private static void basisOfNothing() {
        FlexibleBoxes f = leaves(1, 100, 100);
        f.set(1, TEXT, 5);
        f.set(1, BASIS, 0);
        DUE.equal("width(1) by BASIS 0", f.width(1), 0);
        DUE.equal("naturalWidth(1)", f.naturalWidth(1), 40);
        f.set(1, BASIS, -1);
        DUE.equal("width(1) without BASIS", f.width(1), 40);
        f.set(0, DIRECTION, COLUMN);
        DUE.equal("height(1) without BASIS", f.height(1), 16);
        f.set(1, BASIS, 0);
        DUE.equal("height(1) by BASIS 0", f.height(1), 0);
        DUE.equal("width(1) in a column, BASIS has no say", f.width(1), 100);
    }

    /** "SELF ...; -1 if ALIGN of the parent applies": 0 is START. */
    private static void selfOrAlign() {
        FlexibleBoxes f = leaves(1, 100, 100);
        f.set(1, HEIGHT, 10);
        f.set(0, ALIGN, END);
        DUE.equal("y(1) by ALIGN", f.y(1), 90);
        f.set(1, SELF, START);
        DUE.equal("y(1) by SELF 0", f.y(1), 0);
        f.set(1, SELF, NONE);
        DUE.equal("y(1) by ALIGN again", f.y(1), 90);
        f.set(1, ALIGN, CENTER);
        DUE.equal("y(1), its own ALIGN is for its children", f.y(1), 90);
    }

    /** ALIGN 3 is STRETCH, JUSTIFY 3 is BETWEEN and JUSTIFY 4 EVENLY. */
    private static void valuesOfAlignAndJustify() {
        FlexibleBoxes f = leaves(2, 100, 100);
        f.set(0, ALIGN, 3);
        f.set(0, JUSTIFY, 3);
        row("x by JUSTIFY 3", f::x, 0, 100);
        row("height by ALIGN 3", f::height, 100, 100);
        f.set(0, JUSTIFY, 4);
        row("x by JUSTIFY 4", f::x, 33, 66);
    }

    /** "The text of a container has no effect". */
    private static void textOfAContainer() {
        FlexibleBoxes f = tree(0, 1);
        f.set(2, TEXT, 2);
        f.set(1, MAX_WIDTH, 50);
        String before = Due.picture(f);
        f.set(1, TEXT, 500);
        f.set(0, TEXT, 500);
        DUE.equal("naturalWidth(1)", f.naturalWidth(1), 16);
        DUE.equal("naturalHeight(1)", f.naturalHeight(1), 16);
        DUE.equal("lines(1)", f.lines(1), 1);
        DUE.equal("lines(0)", f.lines(0), 1);
        DUE.equal("overflow(1)", f.overflow(1), 0);
        DUE.equal("widthFor(1, 1)", f.widthFor(1, 1), 0);
        f.set(1, TEXT, 0);
        f.set(0, TEXT, 0);
        DUE.same("a container without text", Due.picture(f), before);
    }

    /** All answers about the layout of a root with two boxes; its properties are not among them. */
    private static String layoutOf(FlexibleBoxes f) {
        StringBuilder all = new StringBuilder();
        for (int b = 0; b <= 2; b++) {
            int box = b;
            IntSupplier[] asked = {() -> f.x(box), () -> f.y(box), () -> f.width(box), () -> f.height(box),
                () -> f.naturalWidth(box), () -> f.naturalHeight(box), () -> f.lines(box), () -> f.lineOf(box),
                () -> f.overflow(box), () -> f.child(box, -1), () -> f.hit(box, box), () -> f.widthFor(box, 2)};
            for (IntSupplier one : asked) {
                all.append(Due.outcome(one)).append(' ');
            }
        }
        return all.toString();
    }

    /** "HIDDEN, MARGIN, SELF, BASIS, GROW, SHRINK, the sizes and the limits of the root have no effect". */
    private static void propertiesWithoutEffectOnTheRoot() {
        int[] without = {HIDDEN, MARGIN, SELF, BASIS, GROW, SHRINK, WIDTH, HEIGHT,
            MIN_WIDTH, MIN_HEIGHT, MAX_WIDTH, MAX_HEIGHT};
        for (int direction = ROW; direction <= COLUMN; direction++) {
            FlexibleBoxes f = tree(0, 1);
            f.set(0, DIRECTION, direction);
            f.set(0, PADDING, 2);
            f.set(2, TEXT, 20);
            f.viewport(100, 90);
            String before = layoutOf(f);
            for (int property : without) {
                for (int value : new int[] {LEAST[property], GREATEST[property], 1}) {
                    f.set(0, property, value);
                    DUE.same("the layout when the root has " + property + " " + value, layoutOf(f), before);
                    f.set(0, property, FIRST[property]);
                }
            }
            for (int property : without) {
                f.set(0, property, 0);
            }
            DUE.same("the layout when the root has them all at 0", layoutOf(f), before);
        }
    }

    /** The others have: those of a container, and TEXT when the root is a leaf. */
    private static void propertiesWithEffectOnTheRoot() {
        FlexibleBoxes f = new FlexibleBoxes();
        f.set(0, TEXT, 500);
        f.set(0, PADDING, 4);
        DUE.equal("lines(0)", f.lines(0), 6);
        DUE.equal("naturalWidth(0)", f.naturalWidth(0), 4008);
        DUE.equal("naturalHeight(0)", f.naturalHeight(0), 6 * 16 + 8);
        f.viewport(15, 103);
        DUE.equal("overflow(0)", f.overflow(0), 3);
    }

    /** "... (so MIN_WIDTH prevails)". */
    private static void theSmallerWidthLimitPrevails() {
        FlexibleBoxes f = leaves(1, 100, 100);
        f.set(1, MIN_WIDTH, 60);
        f.set(1, MAX_WIDTH, 20);
        for (int width : new int[] {0, 20, 40, 60, 90}) {
            f.set(1, WIDTH, width);
            DUE.equal("naturalWidth(1), fixed at " + width, f.naturalWidth(1), 60);
            DUE.equal("width(1), fixed at " + width, f.width(1), 60);
            f.set(0, DIRECTION, COLUMN);
            DUE.equal("width(1) in a column, fixed at " + width, f.width(1), 60);
            f.set(0, DIRECTION, ROW);
        }
        f.set(1, MIN_WIDTH, 1000);
        f.set(1, MAX_WIDTH, 0);
        f.set(1, SHRINK, 0);
        DUE.equal("width(1), limits at their other ends", f.width(1), 1000);
    }

    /** "likewise for heights". */
    private static void theSmallerHeightLimitPrevails() {
        FlexibleBoxes f = leaves(1, 100, 100);
        f.set(1, MIN_HEIGHT, 60);
        f.set(1, MAX_HEIGHT, 20);
        for (int height : new int[] {0, 20, 40, 60, 90}) {
            f.set(1, HEIGHT, height);
            DUE.equal("naturalHeight(1), fixed at " + height, f.naturalHeight(1), 60);
            DUE.equal("height(1), fixed at " + height, f.height(1), 60);
            f.set(0, DIRECTION, COLUMN);
            DUE.equal("height(1) in a column, fixed at " + height, f.height(1), 60);
            f.set(0, DIRECTION, ROW);
        }
        f.set(1, MIN_HEIGHT, 1000);
        f.set(1, MAX_HEIGHT, 0);
        f.set(1, HEIGHT, -1);
        DUE.equal("height(1), limits at their other ends", f.height(1), 1000);
    }

    /** "to take the smaller one of it and MAX_WIDTH, and then the greater one of this and MIN_WIDTH". */
    private static void lengthsAtTheirLimits() {
        FlexibleBoxes f = leaves(1, 500, 500);
        f.set(1, MIN_WIDTH, 30);
        f.set(1, MAX_WIDTH, 40);
        f.set(1, MIN_HEIGHT, 50);
        f.set(1, MAX_HEIGHT, 60);
        int[][] widths = {{29, 30}, {30, 30}, {31, 31}, {39, 39}, {40, 40}, {41, 40}};
        for (int[] pair : widths) {
            f.set(1, WIDTH, pair[0]);
            f.set(1, HEIGHT, pair[0] + 20);
            DUE.equal("naturalWidth(1), fixed at " + pair[0], f.naturalWidth(1), pair[1]);
            DUE.equal("width(1), fixed at " + pair[0], f.width(1), pair[1]);
            DUE.equal("naturalHeight(1), fixed at " + (pair[0] + 20), f.naturalHeight(1), pair[1] + 20);
            DUE.equal("height(1), fixed at " + (pair[0] + 20), f.height(1), pair[1] + 20);
        }
        f.set(1, MIN_WIDTH, 40);
        f.set(1, WIDTH, 100);
        DUE.equal("width(1) between equal limits", f.width(1), 40);
        f.set(1, WIDTH, 0);
        DUE.equal("width(1) between equal limits", f.width(1), 40);
    }

    /** MAX_WIDTH and MAX_HEIGHT are 10000 at first, which limits too. */
    private static void theGreatestLimit() {
        FlexibleBoxes f = tree(0);
        for (int child = 0; child < 11; child++) {
            f.add(1);
            f.set(child + 2, WIDTH, 1000);
            f.set(child + 2, HEIGHT, 1000);
        }
        f.set(2, WIDTH, 0);
        DUE.equal("naturalWidth(1), just as wide", f.naturalWidth(1), 10000);
        f.set(2, WIDTH, 1);
        DUE.equal("naturalWidth(1), one more", f.naturalWidth(1), 10000);
        f.set(1, MAX_WIDTH, 9999);
        DUE.equal("naturalWidth(1), limited to less", f.naturalWidth(1), 9999);
        f.set(1, DIRECTION, COLUMN);
        f.set(2, HEIGHT, 0);
        DUE.equal("naturalHeight(1), just as high", f.naturalHeight(1), 10000);
        f.set(2, HEIGHT, 1);
        DUE.equal("naturalHeight(1), one more", f.naturalHeight(1), 10000);
        f.set(1, MAX_HEIGHT, 9999);
        DUE.equal("naturalHeight(1), limited to less", f.naturalHeight(1), 9999);
    }

    /** "Sets all properties ... except ORDER, HIDDEN and TEXT". */
    private static void allButThreeAreCopied() {
        for (int p = 0; p < 20; p++) {
            FlexibleBoxes f = leaves(2, 100, 100);
            int other = GREATEST[p] == FIRST[p] ? LEAST[p] : GREATEST[p];
            boolean copied = p != ORDER && p != HIDDEN && p != TEXT;
            f.set(1, p, other);
            DUE.equal("copyStyle of " + p, f.copyStyle(1, 2), copied ? 1 : 0);
            for (int q = 0; q < 20; q++) {
                DUE.equal("get(2, " + q + ")", f.get(2, q), q == p && copied ? other : FIRST[q]);
                DUE.equal("get(1, " + q + ")", f.get(1, q), q == p ? other : FIRST[q]);
            }
            DUE.equal("copyStyle of " + p + " again", f.copyStyle(1, 2), 0);
            f.set(2, p, FIRST[p]);
            DUE.equal("copyStyle back", f.copyStyle(2, 1), copied ? 1 : 0);
            DUE.equal("get(1, " + p + ") behind it", f.get(1, p), copied ? FIRST[p] : other);
        }
    }

    /** A box copied to itself, and boxes that are the same. */
    private static void copiesThatChangeNothing() {
        FlexibleBoxes f = leaves(2, 100, 100);
        f.set(1, GAP, 5);
        DUE.equal("copyStyle(1, 1)", f.copyStyle(1, 1), 0);
        DUE.equal("get(1, GAP)", f.get(1, GAP), 5);
        DUE.equal("copyStyle(0, 2)", f.copyStyle(0, 2), 0);
        DUE.equal("copyStyle(0, 0)", f.copyStyle(0, 0), 0);
    }

    /** "Returns how many properties had another value before": up to all 17. */
    private static void copiesCountDifferences() {
        FlexibleBoxes f = leaves(2, 100, 100);
        for (int p = 0; p < 20; p++) {
            f.set(1, p, GREATEST[p] == FIRST[p] ? LEAST[p] : GREATEST[p]);
            DUE.equal("copyStyle(1, 2), one differs", f.copyStyle(1, 2), p < 17 ? 1 : 0);
        }
        f.add(0);
        DUE.equal("copyStyle(1, 3), all differ", f.copyStyle(1, 3), 17);
        DUE.equal("copyStyle(1, 3) again", f.copyStyle(1, 3), 0);
        DUE.equal("get(3, ORDER)", f.get(3, ORDER), 0);
        DUE.equal("get(3, HIDDEN)", f.get(3, HIDDEN), 0);
        DUE.equal("get(3, TEXT)", f.get(3, TEXT), 0);
    }

    /** The root and hidden boxes are boxes like others there. */
    private static void copiesFromAndToTheRoot() {
        FlexibleBoxes f = tree(0);
        f.set(1, DIRECTION, COLUMN);
        f.set(1, MARGIN, 7);
        f.set(1, HIDDEN, 1);
        DUE.equal("copyStyle(1, 0)", f.copyStyle(1, 0), 2);
        DUE.equal("get(0, DIRECTION)", f.get(0, DIRECTION), COLUMN);
        DUE.equal("get(0, MARGIN)", f.get(0, MARGIN), 7);
        DUE.equal("get(0, HIDDEN)", f.get(0, HIDDEN), 0);
        f.set(0, GAP, 50);
        DUE.equal("copyStyle(0, 1)", f.copyStyle(0, 1), 1);
        DUE.equal("get(1, GAP)", f.get(1, GAP), 50);
        DUE.equal("get(1, HIDDEN)", f.get(1, HIDDEN), 1);
    }

    /** "The viewport has a width and a height, 0 to 2000". */
    private static void viewportsAtTheirEnds() {
        FlexibleBoxes f = tree(0);
        f.set(1, GROW, 1);
        for (int width = 0; width <= 2000; width += 2000) {
            for (int height = 0; height <= 2000; height += 2000) {
                f.viewport(width, height);
                DUE.equal("width(0)", f.width(0), width);
                DUE.equal("height(0)", f.height(0), height);
                DUE.equal("width(1)", f.width(1), width);
                DUE.equal("height(1)", f.height(1), height);
            }
        }
        f.viewport(1, 1999);
        DUE.equal("width(1)", f.width(1), 1);
        DUE.equal("height(1)", f.height(1), 1999);
    }

    /** "... at first 800 and 600". */
    private static void theFirstViewport() {
        FlexibleBoxes f = tree(0);
        f.set(1, GROW, 1);
        DUE.equal("width(1)", f.width(1), 800);
        DUE.equal("height(1)", f.height(1), 600);
    }

    private static void present(String call, Consumer<FlexibleBoxes> made, int x, int width) {
        FlexibleBoxes f = leaves(2, 100, 100);
        all(f, WIDTH, 10);
        f.set(1, TEXT, 3);
        f.save(0);
        f.set(1, WIDTH, 30);
        DUE.equal("x(2) before " + call, f.x(2), 30);
        made.accept(f);
        DUE.equal("x(2) behind " + call, f.x(2), x);
        DUE.equal("width(2) behind " + call, f.width(2), width);
    }

    /** "The layout is always that for the present tree, properties and viewport". */
    private static void thePresentLayout() {
        present("set", f -> f.set(1, WIDTH, 20), 20, 10);
        present("copyStyle", f -> f.copyStyle(2, 1), 10, 10);
        present("remove", f -> f.remove(1), 0, 10);
        present("viewport", f -> f.viewport(20, 100), 15, 5);
        present("restore", f -> f.restore(0), 10, 10);
        present("save", f -> f.save(0), 30, 10);
        present("widthFor", f -> f.widthFor(1, 2), 30, 10);
        present("add", f -> f.set(f.add(0), WIDTH, 80), 25, 9);
        FlexibleBoxes g = tree(0);
        g.set(1, TEXT, 4);
        DUE.equal("width(1) before add", g.width(1), 32);
        g.add(1);
        DUE.equal("width(1) behind add", g.width(1), 0);
        g.remove(2);
        DUE.equal("width(1) behind remove", g.width(1), 32);
    }
}

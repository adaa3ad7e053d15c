/** Promises 20 and 21: hit, widthFor. */
public final class PointsTest {
    private static final Due DUE = new Due();

    public static void main(String[] args) {
        edges();
        paintingOrder();
        outsideTheirParents();
        hiddenBoxes();
        widthsForText();
        widthsForRows();
        widthsThatGoBackAndForth();
        widthsThatAreAlwaysRight();
        wrongArguments();
        DUE.end("PointsTest");
    }

    private static void edges() {
        FlexibleBoxes f = new FlexibleBoxes();
        f.viewport(100, 50);
        DUE.equal("hit(0, 0)", f.hit(0, 0), 0);
        DUE.equal("hit(99, 49)", f.hit(99, 49), 0);
        DUE.equal("hit(100, 49)", f.hit(100, 49), -1);
        DUE.equal("hit(99, 50)", f.hit(99, 50), -1);
        DUE.equal("hit(-1, 0)", f.hit(-1, 0), -1);
        DUE.equal("hit(0, -1)", f.hit(0, -1), -1);
        DUE.equal("hit(least int, least int)", f.hit(Integer.MIN_VALUE, Integer.MIN_VALUE), -1);
        DUE.equal("hit(greatest int, greatest int)", f.hit(Integer.MAX_VALUE, Integer.MAX_VALUE), -1);
        f.add(0);
        f.set(1, FlexibleBoxes.WIDTH, 20);
        f.set(1, FlexibleBoxes.HEIGHT, 10);
        f.set(1, FlexibleBoxes.MARGIN, 3);
        DUE.equal("hit(3, 3)", f.hit(3, 3), 1);
        DUE.equal("hit(22, 12)", f.hit(22, 12), 1);
        DUE.equal("hit(23, 12)", f.hit(23, 12), 0);
        DUE.equal("hit(22, 13)", f.hit(22, 13), 0);
        DUE.equal("hit(2, 5)", f.hit(2, 5), 0);
        DUE.equal("hit(5, 2)", f.hit(5, 2), 0);
        f.set(1, FlexibleBoxes.HEIGHT, 0);
        DUE.equal("hit(3, 3) without height", f.hit(3, 3), 0);
    }

    /** Boxes that do not shrink stick out to the right, over their neighbours. */
    private static void paintingOrder() {
        FlexibleBoxes f = new FlexibleBoxes();
        f.add(0);
        f.add(0);
        f.add(1);
        f.add(2);
        for (int box = 1; box <= 2; box++) {
            f.set(box, FlexibleBoxes.WIDTH, 50);
            f.set(box + 2, FlexibleBoxes.WIDTH, 100);
            f.set(box + 2, FlexibleBoxes.SHRINK, 0);
        }
        DUE.equal("hit(10, 0)", f.hit(10, 0), 3);
        DUE.equal("hit(60, 0), the later child", f.hit(60, 0), 4);
        DUE.equal("hit(120, 0)", f.hit(120, 0), 4);
        f.set(2, FlexibleBoxes.ORDER, -1);
        DUE.equal("hit(60, 0), the later one by ORDER", f.hit(60, 0), 3);
        DUE.equal("hit(10, 0)", f.hit(10, 0), 4);
        f.set(4, FlexibleBoxes.HIDDEN, 1);
        DUE.equal("hit(10, 0)", f.hit(10, 0), 2);
    }

    private static void outsideTheirParents() {
        FlexibleBoxes f = new FlexibleBoxes();
        f.viewport(10, 10);
        f.add(0);
        f.add(1);
        f.set(1, FlexibleBoxes.WIDTH, 30);
        f.set(1, FlexibleBoxes.SHRINK, 0);
        f.set(2, FlexibleBoxes.WIDTH, 90);
        f.set(2, FlexibleBoxes.SHRINK, 0);
        DUE.equal("hit(80, 5)", f.hit(80, 5), 2);
        DUE.equal("hit(90, 5)", f.hit(90, 5), -1);
        f.viewport(0, 10);
        DUE.equal("hit(5, 5)", f.hit(5, 5), 2);
    }

    private static void hiddenBoxes() {
        FlexibleBoxes f = new FlexibleBoxes();
        f.add(0);
        f.add(1);
        f.set(1, FlexibleBoxes.GROW, 1);
        f.set(2, FlexibleBoxes.GROW, 1);
        DUE.equal("hit(400, 300)", f.hit(400, 300), 2);
        f.set(2, FlexibleBoxes.HIDDEN, 1);
        DUE.equal("hit(400, 300)", f.hit(400, 300), 1);
        f.set(2, FlexibleBoxes.HIDDEN, 0);
        f.set(1, FlexibleBoxes.HIDDEN, 1);
        DUE.equal("hit(400, 300)", f.hit(400, 300), 0);
        f.set(0, FlexibleBoxes.HIDDEN, 1);
        DUE.equal("hit(400, 300)", f.hit(400, 300), 0);
        DUE.equal("remove(1)", f.remove(1), 2);
        DUE.equal("hit(400, 300)", f.hit(400, 300), 0);
    }

    private static void widthsForText() {
        FlexibleBoxes f = new FlexibleBoxes();
        f.set(0, FlexibleBoxes.TEXT, 100);
        f.set(0, FlexibleBoxes.PADDING, 3);
        DUE.equal("widthFor(0, 1)", f.widthFor(0, 1), 806);
        DUE.equal("widthFor(0, 3)", f.widthFor(0, 3), 34 * 8 + 6);
        DUE.equal("widthFor(0, 99)", f.widthFor(0, 99), 22);
        DUE.equal("widthFor(0, 100)", f.widthFor(0, 100), 0);
        DUE.equal("widthFor(0, 0)", f.widthFor(0, 0), -1);
        DUE.equal("width(0) stays", f.width(0), 800);
        DUE.equal("lines(0) stays", f.lines(0), 2);
        f.set(0, FlexibleBoxes.TEXT, 250);
        f.set(0, FlexibleBoxes.PADDING, 0);
        DUE.equal("widthFor(0, 1) at the end", f.widthFor(0, 1), 2000);
        f.set(0, FlexibleBoxes.TEXT, 251);
        DUE.equal("widthFor(0, 1) beyond the end", f.widthFor(0, 1), -1);
        f.set(0, FlexibleBoxes.TEXT, 500);
        DUE.equal("widthFor(0, 2) at the end", f.widthFor(0, 2), 2000);
        f.add(0);
        f.add(1);
        f.set(1, FlexibleBoxes.WIDTH, 100);
        f.set(2, FlexibleBoxes.TEXT, 20);
        f.set(2, FlexibleBoxes.SELF, 1);
        f.viewport(50, 40);
        String before = Due.picture(f);
        DUE.equal("widthFor(2, 2)", f.widthFor(2, 2), 80);
        DUE.equal("widthFor(2, 1)", f.widthFor(2, 1), -1);
        DUE.same("what widthFor leaves", Due.picture(f), before);
    }

    private static void widthsForRows() {
        FlexibleBoxes f = new FlexibleBoxes();
        f.add(0);
        for (int box = 2; box <= 6; box++) {
            f.add(1);
            f.set(box, FlexibleBoxes.WIDTH, 50);
        }
        f.set(1, FlexibleBoxes.WRAP, 1);
        f.set(1, FlexibleBoxes.GAP, 10);
        f.set(1, FlexibleBoxes.MARGIN, 4);
        f.set(0, FlexibleBoxes.DIRECTION, 1);
        DUE.equal("widthFor(1, 1)", f.widthFor(1, 1), 298);
        DUE.equal("widthFor(1, 2)", f.widthFor(1, 2), 178);
        DUE.equal("widthFor(1, 3)", f.widthFor(1, 3), 118);
        DUE.equal("widthFor(1, 4)", f.widthFor(1, 4), 118);
        DUE.equal("widthFor(1, 5)", f.widthFor(1, 5), 0);
        DUE.equal("widthFor(1, 0)", f.widthFor(1, 0), -1);
    }

    /** In a wider viewport its neighbour comes into the line of box 3, and leaves it less. */
    private static void widthsThatGoBackAndForth() {
        FlexibleBoxes f = new FlexibleBoxes();
        f.add(0);
        f.add(0);
        f.set(0, FlexibleBoxes.WRAP, 1);
        f.set(1, FlexibleBoxes.WIDTH, 80);
        f.set(2, FlexibleBoxes.BASIS, 8);
        f.set(2, FlexibleBoxes.GROW, 1);
        f.set(2, FlexibleBoxes.TEXT, 9);
        DUE.equal("widthFor(2, 1)", f.widthFor(2, 1), 72);
        f.viewport(87, 100);
        DUE.equal("lines(2)", f.lines(2), 1);
        f.viewport(88, 100);
        DUE.equal("lines(2), one pixel more", f.lines(2), 9);
        DUE.equal("widthFor(2, 1)", f.widthFor(2, 1), 72);
        DUE.equal("lines(2) stays", f.lines(2), 9);
    }

    private static void widthsThatAreAlwaysRight() {
        FlexibleBoxes f = new FlexibleBoxes();
        DUE.equal("widthFor(0, 0) of a leaf without text", f.widthFor(0, 0), 0);
        f.add(0);
        f.add(0);
        f.set(1, FlexibleBoxes.WIDTH, 1000);
        f.set(2, FlexibleBoxes.WIDTH, 1000);
        DUE.equal("widthFor(0, 0) of a row", f.widthFor(0, 0), -1);
        DUE.equal("widthFor(0, 1) of a row", f.widthFor(0, 1), 0);
        f.set(0, FlexibleBoxes.WRAP, 1);
        DUE.equal("widthFor(0, 1) of a row that wraps", f.widthFor(0, 1), 2000);
        DUE.equal("widthFor(0, 2) of a row that wraps", f.widthFor(0, 2), 0);
        f.set(0, FlexibleBoxes.PADDING, 1);
        DUE.equal("widthFor(0, 1) beyond the end", f.widthFor(0, 1), -1);
        f.set(0, FlexibleBoxes.DIRECTION, 1);
        DUE.equal("widthFor(0, 1) of a column", f.widthFor(0, 1), -1);
        DUE.equal("widthFor(0, 2) of a column", f.widthFor(0, 2), 0);
        f.set(1, FlexibleBoxes.HIDDEN, 1);
        DUE.equal("widthFor(0, 1) of a column", f.widthFor(0, 1), 0);
        f.set(2, FlexibleBoxes.HIDDEN, 1);
        DUE.equal("widthFor(0, 0) with hidden children alone", f.widthFor(0, 0), 0);
        f.set(0, FlexibleBoxes.DIRECTION, 0);
        DUE.equal("widthFor(0, 0) with hidden children alone", f.widthFor(0, 0), 0);
    }

    private static void wrongArguments() {
        FlexibleBoxes f = new FlexibleBoxes();
        f.add(0);
        f.add(1);
        f.set(1, FlexibleBoxes.HIDDEN, 1);
        String before = Due.picture(f);
        DUE.index("widthFor(3, 1)", () -> f.widthFor(3, 1));
        DUE.index("widthFor(-1, 1)", () -> f.widthFor(-1, 1));
        DUE.index("widthFor(3, 101): the box is checked first", () -> f.widthFor(3, 101));
        DUE.argument("widthFor(0, -1)", () -> f.widthFor(0, -1));
        DUE.argument("widthFor(0, 101)", () -> f.widthFor(0, 101));
        DUE.argument("widthFor(1, 101): n is checked before", () -> f.widthFor(1, 101));
        DUE.state("widthFor(1, 1)", () -> f.widthFor(1, 1));
        DUE.state("widthFor(2, 100)", () -> f.widthFor(2, 100));
        DUE.same("what refused calls leave", Due.picture(f), before);
        DUE.equal("widthFor(0, 0)", f.widthFor(0, 0), 0);
    }
}

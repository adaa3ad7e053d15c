/** The four examples of the document. */
public final class ExamplesTest {
    private static final Due DUE = new Due();

    public static void main(String[] args) {
        growing();
        wrapping();
        text();
        centered();
        DUE.end("ExamplesTest");
    }

    private static void growing() {
        FlexibleBoxes f = new FlexibleBoxes();
        DUE.equal("add(0)", f.add(0), 1);
        DUE.equal("add(0)", f.add(0), 2);
        f.viewport(300, 100);
        DUE.equal("set(1, 7, 50)", f.set(1, 7, 50), -1);
        DUE.equal("set(2, 7, 50)", f.set(2, 7, 50), -1);
        DUE.equal("set(1, 8, 1)", f.set(1, 8, 1), 0);
        DUE.equal("set(2, 8, 3)", f.set(2, 8, 3), 0);
        DUE.equal("width(1)", f.width(1), 100);
        DUE.equal("width(2)", f.width(2), 200);
        DUE.equal("x(2)", f.x(2), 100);
        DUE.equal("height(1)", f.height(1), 100);
        DUE.equal("set(2, 14, 100)", f.set(2, 14, 100), 10000);
        DUE.equal("width(1)", f.width(1), 200);
        DUE.equal("width(2)", f.width(2), 100);
    }

    private static void wrapping() {
        FlexibleBoxes f = new FlexibleBoxes();
        DUE.equal("add(0)", f.add(0), 1);
        DUE.equal("add(0)", f.add(0), 2);
        DUE.equal("add(0)", f.add(0), 3);
        DUE.equal("set(1, 10, 120)", f.set(1, 10, 120), -1);
        DUE.equal("set(2, 10, 120)", f.set(2, 10, 120), -1);
        DUE.equal("set(3, 10, 120)", f.set(3, 10, 120), -1);
        DUE.equal("set(0, 1, 1)", f.set(0, 1, 1), 0);
        DUE.equal("set(0, 4, 10)", f.set(0, 4, 10), 0);
        f.viewport(260, 100);
        DUE.equal("lines(0)", f.lines(0), 2);
        DUE.equal("lineOf(3)", f.lineOf(3), 1);
        DUE.equal("x(2)", f.x(2), 130);
        DUE.equal("widthFor(0, 1)", f.widthFor(0, 1), 380);
        DUE.equal("set(0, 2, 1)", f.set(0, 2, 1), 0);
        DUE.equal("x(1)", f.x(1), 10);
        DUE.equal("x(3)", f.x(3), 140);
    }

    private static void text() {
        FlexibleBoxes f = new FlexibleBoxes();
        DUE.equal("set(0, 0, 1)", f.set(0, 0, 1), 0);
        DUE.equal("add(0)", f.add(0), 1);
        DUE.equal("set(1, 19, 40)", f.set(1, 19, 40), 0);
        DUE.equal("set(1, 5, 4)", f.set(1, 5, 4), 0);
        f.viewport(100, 200);
        DUE.equal("width(1)", f.width(1), 100);
        DUE.equal("lines(1)", f.lines(1), 4);
        DUE.equal("naturalHeight(1)", f.naturalHeight(1), 72);
        DUE.equal("height(1)", f.height(1), 72);
        DUE.equal("overflow(1)", f.overflow(1), 0);
        DUE.equal("set(1, 18, 1)", f.set(1, 18, 1), 0);
        DUE.state("x(1)", () -> f.x(1));
        DUE.equal("child(0, -1)", f.child(0, -1), 0);
    }

    private static void centered() {
        FlexibleBoxes f = new FlexibleBoxes();
        DUE.equal("add(0)", f.add(0), 1);
        DUE.equal("set(1, 10, 50)", f.set(1, 10, 50), -1);
        DUE.equal("set(1, 11, 30)", f.set(1, 11, 30), -1);
        DUE.equal("set(0, 2, 2)", f.set(0, 2, 2), 0);
        DUE.equal("set(0, 3, 2)", f.set(0, 3, 2), 3);
        DUE.equal("x(1)", f.x(1), 375);
        DUE.equal("y(1)", f.y(1), 285);
        DUE.equal("hit(400, 300)", f.hit(400, 300), 1);
        DUE.equal("hit(10, 10)", f.hit(10, 10), 0);
        DUE.equal("remove(1)", f.remove(1), 1);
        DUE.equal("hit(400, 300)", f.hit(400, 300), 0);
        DUE.equal("boxes()", f.boxes(), 1);
    }
}

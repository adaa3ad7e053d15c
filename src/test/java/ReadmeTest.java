/** The calls that README.md shows, with the answers that it gives. */
public final class ReadmeTest {
    private static final Due DUE = new Due();

    public static void main(String[] args) {
        FlexibleBoxes f = new FlexibleBoxes();
        int left = f.add(0);
        int right = f.add(0);
        f.set(left, FlexibleBoxes.WIDTH, 200);
        f.set(left, FlexibleBoxes.SHRINK, 0);
        f.set(right, FlexibleBoxes.TEXT, 300);
        DUE.equal("x(right)", f.x(right), 200);
        DUE.equal("width(right)", f.width(right), 600);
        DUE.equal("lines(right)", f.lines(right), 4);
        DUE.equal("hit(700, 10)", f.hit(700, 10), 2);
        DUE.equal("widthFor(right, 2)", f.widthFor(right, 2), 1400);
        DUE.equal("child(0, NONE)", f.child(0, FlexibleBoxes.NONE), 2);
        saving(f, left, right);
        fortiethBox();
        DUE.end("ReadmeTest");
    }

    private static void saving(FlexibleBoxes f, int left, int right) {
        f.save(0);
        f.set(left, FlexibleBoxes.HIDDEN, 1);
        DUE.equal("width(right)", f.width(right), 800);
        DUE.state("x(left)", () -> f.x(left));
        f.restore(0);
        DUE.equal("x(left)", f.x(left), 0);
    }

    private static void fortiethBox() {
        FlexibleBoxes f = new FlexibleBoxes();
        for (int added = 1; added <= 39; added++) {
            DUE.equal("add(0)", f.add(0), added);
        }
        DUE.state("add(0) for the 40th time", () -> f.add(0));
    }
}

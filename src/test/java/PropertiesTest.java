/** Promises 7 to 10: set, get, copyStyle, viewport. */
public final class PropertiesTest {
    private static final Due DUE = new Due();
    private static final int[] LEAST = {
        0, 0, 0, 0, 0, 0, 0, -1, 0, 0, -1, -1, 0, 0, 0, 0, -1, -9, 0, 0};
    private static final int[] MOST = {
        1, 1, 4, 3, 50, 50, 50, 1000, 9, 9, 1000, 1000, 1000, 1000, 10000, 10000, 3, 9, 1, 500};
    private static final int[] FIRST = {
        0, 0, 0, 3, 0, 0, 0, -1, 0, 1, -1, -1, 0, 0, 10000, 10000, -1, 0, 0, 0};

    public static void main(String[] args) {
        for (int property = 0; property < 20; property++) {
            ranges(property);
        }
        wrongArguments();
        getting();
        copying();
        viewports();
        DUE.end("PropertiesTest");
    }

    private static void ranges(int property) {
        FlexibleBoxes f = new FlexibleBoxes();
        f.add(0);
        int least = LEAST[property];
        int most = MOST[property];
        String call = "set(1, " + property + ", ";
        DUE.equal("get(1, " + property + ")", f.get(1, property), FIRST[property]);
        DUE.equal(call + least + ")", f.set(1, property, least), FIRST[property]);
        DUE.equal(call + most + ")", f.set(1, property, most), least);
        DUE.equal("get(1, " + property + ")", f.get(1, property), most);
        DUE.equal("get(0, " + property + ")", f.get(0, property), FIRST[property]);
        DUE.argument(call + "one less)", () -> f.set(1, property, least - 1));
        DUE.argument(call + "one more)", () -> f.set(1, property, most + 1));
        DUE.argument(call + "least int)", () -> f.set(1, property, Integer.MIN_VALUE));
        DUE.argument(call + "greatest int)", () -> f.set(1, property, Integer.MAX_VALUE));
        DUE.equal("get(1, " + property + ")", f.get(1, property), most);
        DUE.equal(call + most + ") again", f.set(1, property, most), most);
    }

    private static void wrongArguments() {
        FlexibleBoxes f = new FlexibleBoxes();
        f.add(0);
        String before = Due.picture(f);
        DUE.index("set(2, 0, 1)", () -> f.set(2, 0, 1));
        DUE.index("set(-1, 0, 1)", () -> f.set(-1, 0, 1));
        DUE.index("set(40, 99, 99): the box is checked first", () -> f.set(40, 99, 99));
        DUE.argument("set(1, 20, 0)", () -> f.set(1, 20, 0));
        DUE.argument("set(1, -1, 0)", () -> f.set(1, -1, 0));
        DUE.argument("set(1, least int, 0)", () -> f.set(1, Integer.MIN_VALUE, 0));
        DUE.argument("set(1, greatest int, 0)", () -> f.set(1, Integer.MAX_VALUE, 0));
        DUE.same("what refused calls leave", Due.picture(f), before);
    }

    private static void getting() {
        FlexibleBoxes f = new FlexibleBoxes();
        f.add(0);
        f.set(1, FlexibleBoxes.HIDDEN, 1);
        f.set(1, FlexibleBoxes.TEXT, 77);
        DUE.equal("get(1, TEXT) of a hidden box", f.get(1, FlexibleBoxes.TEXT), 77);
        DUE.index("get(2, 0)", () -> f.get(2, 0));
        DUE.index("get(-1, 0)", () -> f.get(-1, 0));
        DUE.index("get(2, 20): the box is checked first", () -> f.get(2, 20));
        DUE.argument("get(1, 20)", () -> f.get(1, 20));
        DUE.argument("get(1, -1)", () -> f.get(1, -1));
    }

    private static void copying() {
        FlexibleBoxes f = new FlexibleBoxes();
        f.add(0);
        f.add(0);
        for (int property = 0; property < 20; property++) {
            f.set(1, property, FIRST[property] == MOST[property] ? LEAST[property] : MOST[property]);
        }
        DUE.equal("copyStyle(1, 2)", f.copyStyle(1, 2), 17);
        for (int property = 0; property < 17; property++) {
            DUE.equal("get(2, " + property + ")", f.get(2, property), f.get(1, property));
        }
        DUE.equal("get(2, ORDER)", f.get(2, FlexibleBoxes.ORDER), 0);
        DUE.equal("get(2, HIDDEN)", f.get(2, FlexibleBoxes.HIDDEN), 0);
        DUE.equal("get(2, TEXT)", f.get(2, FlexibleBoxes.TEXT), 0);
        DUE.equal("get(1, TEXT)", f.get(1, FlexibleBoxes.TEXT), 500);
        DUE.equal("copyStyle(1, 2) again", f.copyStyle(1, 2), 0);
        DUE.equal("copyStyle(1, 1)", f.copyStyle(1, 1), 0);
        f.set(2, FlexibleBoxes.GAP, 3);
        f.set(2, FlexibleBoxes.SELF, 0);
        DUE.equal("copyStyle(2, 1)", f.copyStyle(2, 1), 2);
        DUE.equal("get(1, GAP)", f.get(1, FlexibleBoxes.GAP), 3);
        f.set(1, FlexibleBoxes.MIN_WIDTH, 0);
        f.set(1, FlexibleBoxes.WIDTH, 123);
        f.set(1, FlexibleBoxes.MAX_WIDTH, 200);
        DUE.equal("naturalWidth(2) before", f.naturalWidth(2), 1000);
        DUE.equal("copyStyle(1, 2) behind a question", f.copyStyle(1, 2), 3);
        DUE.equal("naturalWidth(2) behind a question", f.naturalWidth(2), 123);
        f.set(2, FlexibleBoxes.GAP, 4);
        DUE.equal("get(1, GAP) stays", f.get(1, FlexibleBoxes.GAP), 3);
        String before = Due.picture(f);
        DUE.index("copyStyle(3, 1)", () -> f.copyStyle(3, 1));
        DUE.index("copyStyle(1, 3)", () -> f.copyStyle(1, 3));
        DUE.index("copyStyle(-1, 1)", () -> f.copyStyle(-1, 1));
        DUE.index("copyStyle(1, -1)", () -> f.copyStyle(1, -1));
        DUE.same("what refused calls leave", Due.picture(f), before);
    }

    private static void viewports() {
        FlexibleBoxes f = new FlexibleBoxes();
        f.add(0);
        f.viewport(2000, 0);
        DUE.equal("width(0)", f.width(0), 2000);
        DUE.equal("height(0)", f.height(0), 0);
        f.viewport(0, 2000);
        DUE.equal("width(0)", f.width(0), 0);
        DUE.equal("height(0)", f.height(0), 2000);
        DUE.equal("height(1)", f.height(1), 2000);
        DUE.argument("viewport(-1, 5)", () -> Due.done(() -> f.viewport(-1, 5)));
        DUE.argument("viewport(5, -1)", () -> Due.done(() -> f.viewport(5, -1)));
        DUE.argument("viewport(2001, 5)", () -> Due.done(() -> f.viewport(2001, 5)));
        DUE.argument("viewport(5, 2001)", () -> Due.done(() -> f.viewport(5, 2001)));
        DUE.equal("width(0)", f.width(0), 0);
        DUE.equal("height(0)", f.height(0), 2000);
    }
}

/** Promises 11 to 19: x, y, width, height, naturalWidth, naturalHeight, lines, lineOf, overflow. */
public final class LayoutTest extends Checks {
    public static void main(String[] args) {
        boxesThatAreNotThere();
        naturalWidths();
        naturalWidthsOfTheRoot();
        widthsInColumns();
        lineBreaks();
        basisInRows();
        growing();
        shrinking();
        limitsOfBothKinds();
        naturalHeights();
        naturalHeightsOfTheRoot();
        heightsInColumns();
        heightsInRows();
        linesBelowEachOther();
        justifyInRows();
        justifyInColumns();
        alignAcross();
        placesAddUp();
        hiddenBoxes();
        rootProperties();
        linesAndLineOf();
        overflowOfLeaves();
        overflowOfContainers();
        DUE.end("LayoutTest");
    }

    private static void boxesThatAreNotThere() {
        FlexibleBoxes f = leaves(2, 100, 100);
        f.add(2);
        f.remove(1);
        f.set(2, HIDDEN, 1);
        for (int missing : new int[] {1, 4, -1, 40, Integer.MIN_VALUE, Integer.MAX_VALUE}) {
            DUE.index("x(" + missing + ")", () -> f.x(missing));
            DUE.index("y(" + missing + ")", () -> f.y(missing));
            DUE.index("width(" + missing + ")", () -> f.width(missing));
            DUE.index("height(" + missing + ")", () -> f.height(missing));
            DUE.index("naturalWidth(" + missing + ")", () -> f.naturalWidth(missing));
            DUE.index("naturalHeight(" + missing + ")", () -> f.naturalHeight(missing));
            DUE.index("lines(" + missing + ")", () -> f.lines(missing));
            DUE.index("lineOf(" + missing + ")", () -> f.lineOf(missing));
            DUE.index("overflow(" + missing + ")", () -> f.overflow(missing));
        }
        for (int hidden = 2; hidden <= 3; hidden++) {
            int box = hidden;
            DUE.state("x(" + box + ")", () -> f.x(box));
            DUE.state("y(" + box + ")", () -> f.y(box));
            DUE.state("width(" + box + ")", () -> f.width(box));
            DUE.state("height(" + box + ")", () -> f.height(box));
            DUE.state("naturalWidth(" + box + ")", () -> f.naturalWidth(box));
            DUE.state("naturalHeight(" + box + ")", () -> f.naturalHeight(box));
            DUE.state("lines(" + box + ")", () -> f.lines(box));
            DUE.state("lineOf(" + box + ")", () -> f.lineOf(box));
            DUE.state("overflow(" + box + ")", () -> f.overflow(box));
        }
        f.set(2, HIDDEN, 0);
        DUE.equal("x(3) when it is shown again", f.x(3), 0);
    }

    private static void naturalWidths() {
        FlexibleBoxes f = leaves(1, 800, 600);
        f.set(1, TEXT, 5);
        DUE.equal("natural width of a text", f.naturalWidth(1), 40);
        f.set(1, PADDING, 7);
        DUE.equal("natural width with padding", f.naturalWidth(1), 54);
        f.set(1, WIDTH, 33);
        DUE.equal("natural width that is fixed", f.naturalWidth(1), 33);
        f.set(1, MAX_WIDTH, 30);
        DUE.equal("natural width limited above", f.naturalWidth(1), 30);
        f.set(1, MIN_WIDTH, 31);
        DUE.equal("natural width, MIN_WIDTH prevails", f.naturalWidth(1), 31);
        f.set(1, WIDTH, 0);
        f.set(1, MIN_WIDTH, 0);
        DUE.equal("natural width fixed at 0", f.naturalWidth(1), 0);
        f.set(1, WIDTH, -1);
        f.set(1, MAX_WIDTH, 53);
        DUE.equal("natural width of a text, limited", f.naturalWidth(1), 53);

        FlexibleBoxes g = leaves(1, 800, 600);
        g.add(1);
        g.add(1);
        g.add(1);
        g.set(1, TEXT, 500);
        g.set(1, GAP, 10);
        g.set(1, PADDING, 1);
        g.set(2, WIDTH, 100);
        g.set(2, MARGIN, 3);
        g.set(3, WIDTH, 50);
        g.set(4, WIDTH, 20);
        g.set(2, BASIS, 999);
        DUE.equal("natural width of a row", g.naturalWidth(1), 106 + 50 + 20 + 20 + 2);
        g.set(1, WRAP, 1);
        DUE.equal("natural width of a row that wraps", g.naturalWidth(1), 198);
        g.set(1, DIRECTION, 1);
        DUE.equal("natural width of a column", g.naturalWidth(1), 108);
        g.set(2, HIDDEN, 1);
        DUE.equal("natural width without a hidden child", g.naturalWidth(1), 52);
        g.set(1, DIRECTION, 0);
        DUE.equal("natural width without a hidden child", g.naturalWidth(1), 50 + 20 + 10 + 2);
        g.set(3, HIDDEN, 1);
        g.set(4, HIDDEN, 1);
        DUE.equal("natural width with hidden children alone", g.naturalWidth(1), 2);
    }

    private static void naturalWidthsOfTheRoot() {
        FlexibleBoxes f = leaves(20, 800, 600);
        f.set(0, WIDTH, 5);
        f.set(0, MIN_WIDTH, 1000);
        f.set(0, MAX_WIDTH, 7);
        f.set(0, PADDING, 2);
        f.set(1, WIDTH, 100);
        DUE.equal("natural width of the root", f.naturalWidth(0), 104);
        all(f, WIDTH, 1000);
        DUE.equal("natural width of the root, without a limit", f.naturalWidth(0), 20004);
        f.set(0, MAX_WIDTH, 10000);
        DUE.equal("natural width of the root, without a limit", f.naturalWidth(0), 20004);
    }

    private static void widthsInColumns() {
        FlexibleBoxes f = leaves(1, 100, 600);
        f.set(0, DIRECTION, 1);
        f.set(0, PADDING, 5);
        f.set(1, MARGIN, 4);
        f.set(1, TEXT, 2);
        f.set(1, BASIS, 7);
        DUE.equal("a stretched width", f.width(1), 82);
        f.set(1, MAX_WIDTH, 80);
        DUE.equal("a stretched width, limited", f.width(1), 80);
        f.set(0, ALIGN, 0);
        DUE.equal("a natural width", f.width(1), 16);
        f.set(1, TEXT, 20);
        f.set(1, MAX_WIDTH, 10000);
        DUE.equal("a natural width that does not fit", f.width(1), 82);
        f.set(1, MIN_WIDTH, 90);
        DUE.equal("a natural width, limited", f.width(1), 90);
        f.set(1, WIDTH, 300);
        DUE.equal("a fixed width", f.width(1), 300);
        f.set(1, MAX_WIDTH, 200);
        DUE.equal("a fixed width, limited", f.width(1), 200);
        f.set(1, WIDTH, -1);
        f.set(1, SELF, 3);
        DUE.equal("a stretched width by SELF", f.width(1), 90);
        f.set(1, MIN_WIDTH, 0);
        f.viewport(12, 600);
        DUE.equal("a width that margins leave nothing of", f.width(1), 0);
        f.viewport(0, 600);
        DUE.equal("a width in an empty viewport", f.width(1), 0);
        f.set(1, MARGIN, 0);
        DUE.equal("a width that padding leaves nothing of", f.width(1), 0);
        f.viewport(100, 9);
        f.set(1, GROW, 1);
        DUE.equal("a height that padding leaves nothing of", f.height(1), 0);
        f.remove(1);
        f.add(0);
        DUE.equal("natural width of a column of empty boxes", f.naturalWidth(0), 10);
    }

    private static void lineBreaks() {
        FlexibleBoxes f = leaves(4, 232, 600);
        f.set(0, WRAP, 1);
        f.set(0, GAP, 10);
        f.set(0, PADDING, 1);
        all(f, WIDTH, 100);
        all(f, MARGIN, 5);
        row("line", f::lineOf, 0, 0, 1, 1);
        f.viewport(231, 600);
        row("line, one pixel less", f::lineOf, 0, 1, 2, 3);
        DUE.equal("lines(0)", f.lines(0), 4);
        f.viewport(20, 600);
        row("line, nothing fits", f::lineOf, 0, 1, 2, 3);
        f.set(0, WRAP, 0);
        row("line without WRAP", f::lineOf, 0, 0, 0, 0);
        DUE.equal("lines(0) without WRAP", f.lines(0), 1);
        f.set(0, WRAP, 1);
        f.viewport(232, 600);
        all(f, MAX_WIDTH, 60);
        row("line by limited sizes", f::lineOf, 0, 0, 0, 1);
        f.viewport(231, 600);
        row("line by limited sizes, one pixel less", f::lineOf, 0, 0, 1, 1);
        f.viewport(252, 600);
        all(f, BASIS, 20);
        row("line by BASIS", f::lineOf, 0, 0, 0, 0);
        all(f, MIN_WIDTH, 150);
        row("line by MIN_WIDTH", f::lineOf, 0, 1, 2, 3);
        all(f, MIN_WIDTH, 0);
        all(f, MAX_WIDTH, 10000);
        all(f, BASIS, -1);
        f.set(4, ORDER, -1);
        f.set(4, BASIS, 240);
        DUE.equal("lineOf(4), first by ORDER", f.lineOf(4), 0);
        DUE.equal("lineOf(1) behind it", f.lineOf(1), 1);
        DUE.equal("lines(0)", f.lines(0), 3);
    }

    private static void basisInRows() {
        FlexibleBoxes f = leaves(3, 800, 600);
        f.set(1, BASIS, 0);
        f.set(1, TEXT, 10);
        f.set(2, TEXT, 10);
        f.set(3, WIDTH, 200);
        f.set(3, BASIS, 70);
        row("width by BASIS", f::width, 0, 80, 70);
        f.set(3, MIN_WIDTH, 75);
        f.set(2, MAX_WIDTH, 30);
        row("width by BASIS, limited", f::width, 0, 30, 75);
        row("x", f::x, 0, 0, 30);
    }

    private static void growing() {
        FlexibleBoxes f = leaves(3, 100, 600);
        all(f, GROW, 1);
        all(f, BASIS, 0);
        row("width in thirds", f::width, 33, 33, 34);
        f.viewport(101, 600);
        row("width in thirds", f::width, 33, 34, 34);
        f.set(0, GAP, 3);
        f.set(2, MARGIN, 5);
        row("width beside gaps and a margin", f::width, 28, 28, 29);
        f.set(0, GAP, 0);
        f.set(2, MARGIN, 0);
        f.viewport(100, 600);
        f.set(1, MAX_WIDTH, 10);
        row("width with one limited above", f::width, 10, 45, 45);
        f.set(2, MIN_WIDTH, 80);
        row("width with both limits", f::width, 10, 80, 10);
        f.set(2, MIN_WIDTH, 0);
        f.set(1, MAX_WIDTH, 50);
        f.set(1, BASIS, 60);
        row("width with a base above its limit", f::width, 50, 25, 25);
        f.set(3, GROW, 0);
        f.set(3, BASIS, 7);
        row("width with a factor of 0", f::width, 50, 43, 7);
        f.set(2, GROW, 0);
        row("width with none that can grow", f::width, 50, 0, 7);
    }

    private static void shrinking() {
        FlexibleBoxes f = leaves(3, 100, 600);
        f.set(1, BASIS, 100);
        f.set(2, BASIS, 50);
        f.set(3, BASIS, 50);
        row("width by shrinking", f::width, 50, 25, 25);
        f.set(1, SHRINK, 3);
        row("width by factors", f::width, 25, 38, 37);
        f.set(1, SHRINK, 9);
        f.set(2, SHRINK, 0);
        f.set(3, SHRINK, 1);
        row("width with a factor of 0", f::width, 6, 50, 44);
        all(f, SHRINK, 0);
        row("width with none that can shrink", f::width, 100, 50, 50);
        all(f, SHRINK, 1);
        f.set(1, MIN_WIDTH, 70);
        row("width limited below", f::width, 70, 15, 15);
        f.set(2, MIN_WIDTH, 60);
        row("width with a base below its limit", f::width, 70, 60, 0);
        f.set(1, MIN_WIDTH, 0);
        f.set(2, MIN_WIDTH, 0);
        f.viewport(200, 600);
        row("width that fits exactly", f::width, 100, 50, 50);
        f.set(1, MAX_WIDTH, 30);
        f.viewport(130, 600);
        row("width that fits exactly by start sizes", f::width, 30, 50, 50);
        f.set(3, GROW, 1);
        f.viewport(131, 600);
        row("width one pixel more", f::width, 30, 50, 51);
        f.viewport(0, 600);
        all(f, MARGIN, 20);
        row("width with nothing left", f::width, 0, 0, 0);
        DUE.equal("x(3) behind margins alone", f.x(3), 100);
    }

    private static void limitsOfBothKinds() {
        FlexibleBoxes f = leaves(3, 100, 600);
        all(f, GROW, 1);
        all(f, BASIS, 0);
        f.set(1, MAX_WIDTH, 10);
        f.set(2, MIN_WIDTH, 60);
        row("width, deviations above 0 first", f::width, 10, 60, 30);
        f.set(2, MIN_WIDTH, 40);
        row("width, deviations below 0 first", f::width, 10, 45, 45);
        f.set(1, MAX_WIDTH, 20);
        f.set(2, MIN_WIDTH, 46);
        row("width, deviations that make 0", f::width, 20, 46, 34);

        // Only if all four are fixed at once do the inner two keep their parts of this round.
        FlexibleBoxes g = leaves(4, 102, 600);
        all(g, GROW, 1);
        all(g, BASIS, 0);
        g.set(1, MAX_WIDTH, 21);
        g.set(4, MIN_WIDTH, 30);
        row("width, deviations that make 0", g::width, 21, 26, 25, 30);
    }

    private static void naturalHeights() {
        FlexibleBoxes f = leaves(1, 80, 600);
        f.set(0, ALIGN, 0);
        f.set(1, TEXT, 10);
        DUE.equal("natural height of one line", f.naturalHeight(1), 16);
        f.set(1, TEXT, 11);
        DUE.equal("natural height of two lines", f.naturalHeight(1), 32);
        f.viewport(79, 600);
        DUE.equal("natural height, nine in a line", f.naturalHeight(1), 32);
        f.set(1, TEXT, 18);
        DUE.equal("natural height, nine in a line", f.naturalHeight(1), 32);
        f.set(1, TEXT, 19);
        DUE.equal("natural height, nine in a line", f.naturalHeight(1), 48);
        f.set(1, PADDING, 4);
        DUE.equal("natural height with padding", f.naturalHeight(1), 56);
        f.viewport(5, 600);
        DUE.equal("natural height, one in a line", f.naturalHeight(1), 19 * 16 + 8);
        f.set(1, HEIGHT, 50);
        DUE.equal("natural height that is fixed", f.naturalHeight(1), 50);
        f.set(1, MAX_HEIGHT, 45);
        DUE.equal("natural height limited above", f.naturalHeight(1), 45);
        f.set(1, MIN_HEIGHT, 47);
        DUE.equal("natural height, MIN_HEIGHT prevails", f.naturalHeight(1), 47);
        f.set(1, HEIGHT, -1);
        DUE.equal("natural height of a text, limited", f.naturalHeight(1), 47);

        FlexibleBoxes g = leaves(1, 100, 600);
        g.add(1);
        g.add(1);
        g.add(1);
        g.set(1, GAP, 10);
        g.set(1, PADDING, 1);
        g.set(1, TEXT, 100);
        for (int box = 2; box <= 4; box++) {
            g.set(box, WIDTH, 40);
            g.set(box, HEIGHT, 10 * box);
        }
        g.set(3, MARGIN, 2);
        DUE.equal("natural height of a row", g.naturalHeight(1), 40 + 2);
        g.set(1, WRAP, 1);
        DUE.equal("natural height of lines", g.naturalHeight(1), 34 + 10 + 40 + 2);
        g.set(1, DIRECTION, 1);
        DUE.equal("natural height of a column", g.naturalHeight(1), 20 + 34 + 40 + 20 + 2);
        g.set(3, HIDDEN, 1);
        DUE.equal("natural height without a hidden child", g.naturalHeight(1), 20 + 40 + 10 + 2);
        g.set(2, HIDDEN, 1);
        g.set(4, HIDDEN, 1);
        DUE.equal("natural height with hidden children alone", g.naturalHeight(1), 2);
        g.set(1, DIRECTION, 0);
        DUE.equal("natural height with hidden children alone", g.naturalHeight(1), 2);
    }

    private static void naturalHeightsOfTheRoot() {
        FlexibleBoxes f = leaves(1, 800, 600);
        f.set(0, HEIGHT, 5);
        f.set(0, MIN_HEIGHT, 1000);
        f.set(0, MAX_HEIGHT, 7);
        f.set(0, PADDING, 2);
        f.set(1, HEIGHT, 100);
        DUE.equal("natural height of the root", f.naturalHeight(0), 104);
        f.remove(1);
        f.set(0, TEXT, 150);
        f.viewport(404, 600);
        DUE.equal("natural height of a root with text", f.naturalHeight(0), 52);
        DUE.equal("lines of a root with text", f.lines(0), 3);
    }

    private static void heightsInColumns() {
        FlexibleBoxes f = leaves(3, 100, 100);
        f.set(0, DIRECTION, 1);
        f.set(1, HEIGHT, 20);
        f.set(2, TEXT, 13);
        f.set(3, HEIGHT, 99);
        f.set(3, BASIS, 10);
        row("height by its base", f::height, 20, 32, 10);
        all(f, GROW, 1);
        row("height by growing", f::height, 32, 45, 23);
        f.set(2, MAX_HEIGHT, 30);
        f.set(2, MAX_WIDTH, 0);
        f.set(0, PADDING, 2);
        f.set(0, GAP, 3);
        row("height by growing, limited", f::height, 35, 30, 25);
        f.set(2, MAX_WIDTH, 10000);
        f.set(2, MAX_HEIGHT, 10000);
        f.set(0, PADDING, 0);
        f.set(0, GAP, 0);
        f.viewport(100, 31);
        row("height by shrinking", f::height, 10, 16, 5);
        f.set(3, MIN_HEIGHT, 7);
        row("height by shrinking, limited", f::height, 10, 14, 7);
    }

    private static void heightsInRows() {
        FlexibleBoxes f = leaves(2, 800, 100);
        f.set(0, PADDING, 10);
        f.set(1, TEXT, 10);
        f.set(2, TEXT, 10);
        f.set(2, MARGIN, 5);
        row("a stretched height", f::height, 80, 70);
        f.set(1, MAX_HEIGHT, 60);
        f.set(2, MIN_HEIGHT, 75);
        row("a stretched height, limited", f::height, 60, 75);
        f.set(0, ALIGN, 2);
        row("a natural height", f::height, 16, 75);
        f.set(1, HEIGHT, 200);
        row("a fixed height, limited", f::height, 60, 75);
        f.set(1, MAX_HEIGHT, 10000);
        row("a fixed height", f::height, 200, 75);
        f.set(1, HEIGHT, -1);
        f.set(1, SELF, 3);
        f.set(2, MIN_HEIGHT, 0);
        row("a stretched height by SELF", f::height, 80, 16);
        f.set(2, SELF, 3);
        f.viewport(800, 25);
        row("a height that margins leave nothing of", f::height, 5, 0);
        f.set(0, WRAP, 1);
        row("a stretched height in a line", f::height, 26, 16);
    }

    private static void linesBelowEachOther() {
        FlexibleBoxes f = leaves(3, 100, 500);
        f.set(0, WRAP, 1);
        f.set(0, GAP, 7);
        f.set(0, PADDING, 3);
        all(f, WIDTH, 40);
        f.set(1, HEIGHT, 30);
        f.set(2, HEIGHT, 10);
        f.set(2, MARGIN, 2);
        f.set(3, HEIGHT, 20);
        row("line", f::lineOf, 0, 0, 1);
        row("y", f::y, 3, 5, 40);
        row("x", f::x, 3, 52, 3);
        f.set(2, HEIGHT, 60);
        row("y behind a higher line", f::y, 3, 5, 74);
        f.set(2, HEIGHT, -1);
        row("height in a line", f::height, 30, 26, 20);
        f.set(0, WRAP, 0);
        row("y without WRAP", f::y, 3, 5, 3);
        row("height without WRAP", f::height, 30, 490, 20);
    }

    private static void justifyInRows() {
        FlexibleBoxes f = leaves(3, 100, 50);
        f.set(0, PADDING, 2);
        f.set(0, GAP, 4);
        all(f, WIDTH, 20);
        f.set(2, MARGIN, 3);
        row("x by START", f::x, 2, 29, 56);
        f.set(0, JUSTIFY, 1);
        row("x by END", f::x, 24, 51, 78);
        f.set(0, JUSTIFY, 2);
        row("x by CENTER", f::x, 13, 40, 67);
        f.set(0, JUSTIFY, 3);
        row("x by BETWEEN", f::x, 2, 40, 78);
        f.set(0, JUSTIFY, 4);
        row("x by EVENLY", f::x, 7, 40, 72);
        f.viewport(101, 50);
        f.set(0, JUSTIFY, 3);
        row("x by BETWEEN, 23 free", f::x, 2, 40, 79);
        f.set(0, JUSTIFY, 2);
        row("x by CENTER, 23 free", f::x, 13, 40, 67);
        f.set(2, HIDDEN, 1);
        f.set(3, HIDDEN, 1);
        int[] due = {2, 79, 40, 2, 40};
        for (int mode = 0; mode < 5; mode++) {
            f.set(0, JUSTIFY, mode);
            DUE.equal("x of one box by " + mode, f.x(1), due[mode]);
        }
        f.viewport(25, 50);
        int[] dueBesideOne = {2, 3, 2, 2, 2};
        for (int mode = 0; mode < 5; mode++) {
            f.set(0, JUSTIFY, mode);
            DUE.equal("x of one box beside one free pixel by " + mode, f.x(1), dueBesideOne[mode]);
        }
        f.set(1, SHRINK, 0);
        f.viewport(10, 50);
        for (int mode = 0; mode < 5; mode++) {
            f.set(0, JUSTIFY, mode);
            DUE.equal("x of one box that does not fit by " + mode, f.x(1), 2);
        }
    }

    private static void justifyInColumns() {
        FlexibleBoxes f = leaves(3, 50, 100);
        f.set(0, DIRECTION, 1);
        f.set(0, PADDING, 2);
        f.set(0, GAP, 4);
        all(f, HEIGHT, 20);
        f.set(2, MARGIN, 3);
        int[][] due = {{2, 29, 56}, {24, 51, 78}, {13, 40, 67}, {2, 40, 78}, {7, 40, 72}};
        for (int mode = 0; mode < 5; mode++) {
            f.set(0, JUSTIFY, mode);
            row("y by " + mode, f::y, due[mode]);
        }
        all(f, SHRINK, 0);
        f.viewport(50, 30);
        for (int mode = 0; mode < 5; mode++) {
            f.set(0, JUSTIFY, mode);
            row("y in too little space by " + mode, f::y, 2, 29, 56);
        }
    }

    private static void alignAcross() {
        FlexibleBoxes f = leaves(4, 400, 101);
        all(f, HEIGHT, 20);
        all(f, MARGIN, 3);
        for (int box = 1; box <= 4; box++) {
            f.set(box, SELF, box - 1);
        }
        row("y by SELF", f::y, 3, 78, 40, 3);
        f.viewport(400, 26);
        row("y without free space", f::y, 3, 3, 3, 3);
        f.viewport(400, 27);
        row("y beside one free pixel", f::y, 3, 4, 3, 3);
        f.viewport(400, 20);
        row("y without space", f::y, 3, 3, 3, 3);
        f.viewport(400, 101);
        f.set(1, SELF, -1);
        f.set(0, ALIGN, 1);
        row("y by ALIGN or SELF", f::y, 78, 78, 40, 3);

        FlexibleBoxes g = leaves(4, 101, 400);
        g.set(0, DIRECTION, 1);
        g.set(0, PADDING, 1);
        all(g, WIDTH, 20);
        for (int box = 1; box <= 4; box++) {
            g.set(box, SELF, box - 1);
        }
        row("x by SELF", g::x, 1, 80, 40, 1);
        all(g, MARGIN, 3);
        row("x by SELF with margins", g::x, 4, 77, 40, 4);
        all(g, MARGIN, 0);
        g.viewport(15, 400);
        row("x without space", g::x, 1, 1, 1, 1);
    }

    private static void placesAddUp() {
        FlexibleBoxes f = leaves(1, 300, 300);
        f.add(1);
        f.add(2);
        for (int box = 0; box <= 2; box++) {
            f.set(box, PADDING, 10);
            f.set(box + 1, MARGIN, 5);
            f.set(box + 1, GROW, 1);
        }
        row("x below boxes", f::x, 15, 30, 45);
        row("y below boxes", f::y, 15, 30, 45);
        row("width below boxes", f::width, 270, 240, 210);
        row("height below boxes", f::height, 270, 240, 210);
    }

    private static void hiddenBoxes() {
        FlexibleBoxes f = leaves(3, 100, 100);
        f.add(2);
        all(f, WIDTH, 20);
        f.set(0, GAP, 5);
        f.set(2, HIDDEN, 1);
        DUE.equal("x(3) behind a hidden box", f.x(3), 25);
        DUE.state("x(4)", () -> f.x(4));
        f.set(2, HIDDEN, 0);
        DUE.equal("x(3)", f.x(3), 50);
        DUE.equal("x(4)", f.x(4), 25);
        f.set(4, HIDDEN, 1);
        f.set(2, TEXT, 10);
        f.set(2, WIDTH, -1);
        DUE.equal("width of a container whose child is hidden", f.width(2), 0);
        DUE.state("x(4)", () -> f.x(4));
    }

    private static void rootProperties() {
        FlexibleBoxes f = leaves(1, 100, 80);
        f.set(0, MARGIN, 9);
        f.set(0, SELF, 2);
        f.set(0, BASIS, 5);
        f.set(0, GROW, 5);
        f.set(0, SHRINK, 5);
        f.set(0, WIDTH, 33);
        f.set(0, HEIGHT, 44);
        f.set(0, MIN_WIDTH, 500);
        f.set(0, MIN_HEIGHT, 500);
        f.set(0, HIDDEN, 1);
        DUE.equal("x(0)", f.x(0), 0);
        DUE.equal("y(0)", f.y(0), 0);
        DUE.equal("width(0)", f.width(0), 100);
        DUE.equal("height(0)", f.height(0), 80);
        DUE.equal("height(1)", f.height(1), 80);
        DUE.equal("naturalWidth(0)", f.naturalWidth(0), 0);
        DUE.equal("naturalHeight(0)", f.naturalHeight(0), 0);
        DUE.equal("lineOf(0)", f.lineOf(0), 0);
        DUE.equal("overflow(0)", f.overflow(0), 0);
        DUE.equal("hit(5, 5)", f.hit(5, 5), 0);
        DUE.equal("widthFor(1, 0)", f.widthFor(1, 0), 0);
    }

    private static void linesAndLineOf() {
        FlexibleBoxes f = leaves(3, 100, 100);
        DUE.equal("lines of a row", f.lines(0), 1);
        DUE.equal("lines of a leaf without text", f.lines(1), 0);
        f.set(0, DIRECTION, 1);
        f.set(0, WRAP, 1);
        DUE.equal("lines of a column", f.lines(0), 3);
        row("line of a column", f::lineOf, 0, 1, 2);
        f.set(1, ORDER, 5);
        row("line of a column by ORDER", f::lineOf, 2, 0, 1);
        f.set(2, HIDDEN, 1);
        DUE.equal("lines of a column without a hidden child", f.lines(0), 2);
        DUE.equal("lineOf(3)", f.lineOf(3), 0);
        DUE.equal("lineOf(0)", f.lineOf(0), 0);
        f.set(1, HIDDEN, 1);
        f.set(3, HIDDEN, 1);
        f.set(0, TEXT, 50);
        DUE.equal("lines of a column with hidden children alone", f.lines(0), 0);
        f.set(0, DIRECTION, 0);
        DUE.equal("lines of a row with hidden children alone", f.lines(0), 0);
        f.set(1, HIDDEN, 0);
        f.set(1, TEXT, 13);
        DUE.equal("lines of a text", f.lines(1), 2);
        f.set(1, TEXT, 12);
        DUE.equal("lines of a text", f.lines(1), 1);
    }

    private static void overflowOfLeaves() {
        FlexibleBoxes f = leaves(1, 100, 100);
        f.set(1, TEXT, 12);
        f.set(1, MAX_HEIGHT, 16);
        DUE.equal("overflow(1)", f.overflow(1), 0);
        f.set(1, MAX_HEIGHT, 15);
        DUE.equal("overflow(1) downward", f.overflow(1), 2);
        f.set(1, MAX_HEIGHT, 24);
        f.set(1, PADDING, 4);
        f.set(1, TEXT, 11);
        DUE.equal("overflow(1) with padding", f.overflow(1), 0);
        f.set(1, PADDING, 5);
        DUE.equal("overflow(1) with more padding", f.overflow(1), 2);
        f.set(1, TEXT, 1);
        f.set(1, PADDING, 2);
        f.set(1, MAX_WIDTH, 12);
        DUE.equal("overflow(1) of one character", f.overflow(1), 0);
        f.set(1, MAX_WIDTH, 11);
        DUE.equal("overflow(1) to the right", f.overflow(1), 1);
        f.set(1, MAX_HEIGHT, 10);
        DUE.equal("overflow(1) both ways", f.overflow(1), 3);
        f.set(1, TEXT, 0);
        DUE.equal("overflow(1) without text", f.overflow(1), 0);
    }

    private static void overflowOfContainers() {
        FlexibleBoxes f = leaves(2, 100, 100);
        f.set(0, PADDING, 5);
        f.set(0, ALIGN, 0);
        all(f, SHRINK, 0);
        all(f, WIDTH, 40);
        all(f, HEIGHT, 80);
        f.set(2, MARGIN, 5);
        DUE.equal("overflow(0)", f.overflow(0), 0);
        f.set(2, WIDTH, 41);
        DUE.equal("overflow(0) to the right", f.overflow(0), 1);
        f.set(2, HEIGHT, 81);
        DUE.equal("overflow(0) both ways", f.overflow(0), 3);
        f.set(2, WIDTH, 40);
        DUE.equal("overflow(0) downward", f.overflow(0), 2);
        f.set(2, HIDDEN, 1);
        DUE.equal("overflow(0) without the hidden child", f.overflow(0), 0);
        f.set(1, HIDDEN, 1);
        f.set(0, TEXT, 500);
        f.viewport(0, 0);
        DUE.equal("overflow(0) with hidden children alone", f.overflow(0), 0);
        f.set(1, HIDDEN, 0);
        f.set(1, WIDTH, 0);
        f.set(1, HEIGHT, 0);
        DUE.equal("overflow(0) with an empty child behind its padding", f.overflow(0), 3);
    }
}

import java.util.function.IntUnaryOperator;

/** What the tests share: short names of the properties, objects to begin with, and rows of answers. */
abstract class Checks {
    static final int DIRECTION = FlexibleBoxes.DIRECTION;
    static final int WRAP = FlexibleBoxes.WRAP;
    static final int JUSTIFY = FlexibleBoxes.JUSTIFY;
    static final int ALIGN = FlexibleBoxes.ALIGN;
    static final int GAP = FlexibleBoxes.GAP;
    static final int PADDING = FlexibleBoxes.PADDING;
    static final int MARGIN = FlexibleBoxes.MARGIN;
    static final int BASIS = FlexibleBoxes.BASIS;
    static final int GROW = FlexibleBoxes.GROW;
    static final int SHRINK = FlexibleBoxes.SHRINK;
    static final int WIDTH = FlexibleBoxes.WIDTH;
    static final int HEIGHT = FlexibleBoxes.HEIGHT;
    static final int MIN_WIDTH = FlexibleBoxes.MIN_WIDTH;
    static final int MIN_HEIGHT = FlexibleBoxes.MIN_HEIGHT;
    static final int MAX_WIDTH = FlexibleBoxes.MAX_WIDTH;
    static final int MAX_HEIGHT = FlexibleBoxes.MAX_HEIGHT;
    static final int SELF = FlexibleBoxes.SELF;
    static final int ORDER = FlexibleBoxes.ORDER;
    static final int HIDDEN = FlexibleBoxes.HIDDEN;
    static final int TEXT = FlexibleBoxes.TEXT;
    static final int ROW = FlexibleBoxes.ROW;
    static final int COLUMN = FlexibleBoxes.COLUMN;
    static final int START = FlexibleBoxes.START;
    static final int END = FlexibleBoxes.END;
    static final int CENTER = FlexibleBoxes.CENTER;
    static final int BETWEEN = FlexibleBoxes.BETWEEN;
    static final int EVENLY = FlexibleBoxes.EVENLY;
    static final int STRETCH = FlexibleBoxes.STRETCH;
    static final int NONE = FlexibleBoxes.NONE;

    /** Each test runs in a machine of its own, so this one counts for that test alone. */
    static final Due DUE = new Due();

    /** An object whose root has some leaves, in a viewport. */
    static FlexibleBoxes leaves(int count, int width, int height) {
        FlexibleBoxes f = new FlexibleBoxes();
        for (int box = 0; box < count; box++) {
            f.add(0);
        }
        f.viewport(width, height);
        return f;
    }

    /** The same, with the leaves in a column. */
    static FlexibleBoxes column(int count, int width, int height) {
        FlexibleBoxes f = leaves(count, width, height);
        f.set(0, DIRECTION, COLUMN);
        return f;
    }

    /** An object whose boxes 1, 2, ... have these parents. */
    static FlexibleBoxes tree(int... parents) {
        FlexibleBoxes f = new FlexibleBoxes();
        for (int parent : parents) {
            f.add(parent);
        }
        return f;
    }

    /** Sets a property of all boxes but the root; none of them may have been removed. */
    static void all(FlexibleBoxes f, int property, int value) {
        for (int box = 1; box < f.boxes(); box++) {
            f.set(box, property, value);
        }
    }

    /** Compares the answers for the boxes from 1 on. */
    static void row(String what, IntUnaryOperator asked, int... due) {
        for (int i = 0; i < due.length; i++) {
            DUE.equal(what + " of box " + (i + 1), asked.applyAsInt(i + 1), due[i]);
        }
    }
}

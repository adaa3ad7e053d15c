/**
 * A layout engine for flexible boxes, in the manner of CSS flexbox: a tree of boxes in rows and
 * columns, with wrapping, growing, shrinking, limits, margins, padding, alignment, and text whose
 * height depends on its width.
 */
public final class FlexibleBoxes {
    public static final int DIRECTION = 0, WRAP = 1, JUSTIFY = 2, ALIGN = 3, GAP = 4, PADDING = 5,
            MARGIN = 6, BASIS = 7, GROW = 8, SHRINK = 9, WIDTH = 10, HEIGHT = 11, MIN_WIDTH = 12,
            MIN_HEIGHT = 13, MAX_WIDTH = 14, MAX_HEIGHT = 15, SELF = 16, ORDER = 17, HIDDEN = 18,
            TEXT = 19;
    public static final int ROW = 0, COLUMN = 1;
    public static final int START = 0, END = 1, CENTER = 2, BETWEEN = 3, EVENLY = 4, STRETCH = 3;
    public static final int NONE = -1;

    private static final int MOST_BOXES = 40;
    private static final int PROPERTIES = 20;
    private static final int WIDEST_VIEWPORT = 2000;
    private static final int MOST_LINES_ASKED = 100;
    private static final int SLOTS = 2;
    private static final int CHARACTER_WIDTH = 8;
    private static final int TEXT_LINE_HEIGHT = 16;

    /** The least, the greatest and the first value of each property, by its number. */
    private static final int[] LEAST = {
        0, 0, 0, 0, 0, 0, 0, -1, 0, 0, -1, -1, 0, 0, 0, 0, -1, -9, 0, 0};
    private static final int[] GREATEST = {
        1, 1, 4, 3, 50, 50, 50, 1000, 9, 9, 1000, 1000, 1000, 1000, 10000, 10000, 3, 9, 1, 500};
    private static final int[] FIRST = {
        0, 0, 0, 3, 0, 0, 0, -1, 0, 1, -1, -1, 0, 0, 10000, 10000, -1, 0, 0, 0};

    private final Tree tree = new Tree();
    private final Layout layout = new Layout(tree);
    private final Snapshot[] slots = new Snapshot[SLOTS];

    public FlexibleBoxes() {
    }

    public int add(int parent) throws IndexOutOfBoundsException, IllegalStateException {
        Box above = existing(parent);
        if (tree.isFull()) {
            throw new IllegalStateException("39 boxes were added already");
        }
        layout.stale = true;
        return tree.append(above);
    }

    public int remove(int box) throws IndexOutOfBoundsException, IllegalArgumentException {
        Box top = existing(box);
        if (top.isRoot()) {
            throw new IllegalArgumentException("the root stays");
        }
        layout.stale = true;
        return tree.cut(top);
    }

    public int boxes() {
        return tree.count();
    }

    public int parent(int box) throws IndexOutOfBoundsException {
        return existing(box).parentNumber();
    }

    public int child(int box, int index) throws IndexOutOfBoundsException {
        Box above = existing(box);
        layout.arrange();
        if (index == NONE) {
            return above.kids;
        }
        int place = 0;
        for (Box kid = above.firstKid; kid != null; kid = kid.nextKid) {
            if (place == index) {
                return kid.number;
            }
            place++;
        }
        return NONE;
    }

    public int set(int box, int property, int value)
            throws IndexOutOfBoundsException, IllegalArgumentException {
        Box changed = existing(box);
        if (!isProperty(property)) {
            throw new IllegalArgumentException("no such property");
        }
        if (value < LEAST[property] || value > GREATEST[property]) {
            throw new IllegalArgumentException("the value is out of its range");
        }
        layout.stale = true;
        return changed.change(property, value);
    }

    public int get(int box, int property)
            throws IndexOutOfBoundsException, IllegalArgumentException {
        Box asked = existing(box);
        if (!isProperty(property)) {
            throw new IllegalArgumentException("no such property");
        }
        return asked.of(property);
    }

    public int copyStyle(int from, int to) throws IndexOutOfBoundsException {
        Box source = existing(from);
        Box target = existing(to);
        layout.stale = true;
        int changes = 0;
        for (int property = 0; property < PROPERTIES; property++) {
            if (property != ORDER && property != HIDDEN && property != TEXT) {
                int value = source.of(property);
                if (target.change(property, value) != value) {
                    changes++;
                }
            }
        }
        return changes;
    }

    public void viewport(int width, int height) throws IllegalArgumentException {
        if (!isViewportLength(width) || !isViewportLength(height)) {
            throw new IllegalArgumentException("a viewport is 0 to 2000 wide and high");
        }
        layout.stale = true;
        tree.viewportWidth = width;
        tree.viewportHeight = height;
    }

    public int x(int box) throws IndexOutOfBoundsException, IllegalStateException {
        return laidOut(existing(box)).x;
    }

    public int y(int box) throws IndexOutOfBoundsException, IllegalStateException {
        return laidOut(existing(box)).y;
    }

    public int width(int box) throws IndexOutOfBoundsException, IllegalStateException {
        return laidOut(existing(box)).width;
    }

    public int height(int box) throws IndexOutOfBoundsException, IllegalStateException {
        return laidOut(existing(box)).height;
    }

    public int naturalWidth(int box) throws IndexOutOfBoundsException, IllegalStateException {
        return laidOut(existing(box)).naturalWidth;
    }

    public int naturalHeight(int box) throws IndexOutOfBoundsException, IllegalStateException {
        return laidOut(existing(box)).naturalHeight;
    }

    public int lines(int box) throws IndexOutOfBoundsException, IllegalStateException {
        return laidOut(existing(box)).lineCount;
    }

    public int lineOf(int box) throws IndexOutOfBoundsException, IllegalStateException {
        return laidOut(existing(box)).line;
    }

    public int overflow(int box) throws IndexOutOfBoundsException, IllegalStateException {
        Box asked = laidOut(existing(box));
        return asked.container ? Layout.kidsOverflow(asked) : Layout.textOverflow(asked);
    }

    public int hit(int px, int py) {
        layout.arrange();
        return layout.topmostAt(px, py);
    }

    public int widthFor(int box, int n)
            throws IndexOutOfBoundsException, IllegalArgumentException, IllegalStateException {
        Box asked = existing(box);
        if (n < 0 || n > MOST_LINES_ASKED) {
            throw new IllegalArgumentException("n is 0 to 100");
        }
        laidOut(asked);
        // The search tries widths in the boxes themselves, so the layout is made anew after it.
        layout.stale = true;
        return layout.narrowestFor(asked, n);
    }

    public void save(int slot) throws IllegalArgumentException {
        if (slot < 0 || slot >= SLOTS) {
            throw new IllegalArgumentException("no such slot");
        }
        Snapshot kept = slots[slot];
        if (kept == null) {
            kept = new Snapshot();
            slots[slot] = kept;
        }
        tree.copyTo(kept);
    }

    public void restore(int slot) throws IllegalArgumentException, IllegalStateException {
        if (slot < 0 || slot >= SLOTS) {
            throw new IllegalArgumentException("no such slot");
        }
        Snapshot kept = slots[slot];
        if (kept == null) {
            throw new IllegalStateException("nothing was saved in this slot");
        }
        layout.stale = true;
        tree.takeFrom(kept);
    }

    private Box existing(int number) {
        Box box = tree.at(number);
        if (box == null || !box.exists) {
            throw new IndexOutOfBoundsException("no such box");
        }
        return box;
    }

    private Box laidOut(Box box) {
        layout.arrange();
        if (!box.shown) {
            throw new IllegalStateException("the box is hidden");
        }
        return box;
    }

    private static boolean isProperty(int property) {
        return property >= 0 && property < PROPERTIES;
    }

    private static boolean isViewportLength(int length) {
        return length >= 0 && length <= WIDEST_VIEWPORT;
    }

    private static int limited(int length, int least, int greatest) {
        int most = length < greatest ? length : greatest;
        return most > least ? most : least;
    }

    private static int gaps(int count, int gap) {
        return count > 1 ? (count - 1) * gap : 0;
    }

    /** A box: its place in the tree, its properties, and what the layout found for it. */
    private static final class Box {
        final int number;
        final int[] style = new int[PROPERTIES];
        boolean exists;
        Box parent;
        /** Whether it has children, hidden ones too. */
        boolean container;
        boolean shown;
        /** The children that are not hidden are a chain in visual order. */
        Box firstKid;
        Box nextKid;
        int kids;
        /** The next box on the way from the root to the box that widthFor asks about. */
        Box heir;
        int naturalWidth;
        int naturalHeight;
        int x;
        int y;
        int width;
        int height;
        int lineCount;
        int line;

        Box(int number) {
            this.number = number;
        }

        void begin(Box above) {
            parent = above;
            exists = true;
            for (int property = 0; property < PROPERTIES; property++) {
                style[property] = FIRST[property];
            }
        }

        int of(int property) {
            return property >= 0 && property < PROPERTIES ? style[property] : 0;
        }

        int change(int property, int value) {
            int before = of(property);
            if (isProperty(property)) {
                style[property] = value;
            }
            return before;
        }

        boolean isRoot() {
            return parent == null;
        }

        int parentNumber() {
            return parent == null ? NONE : parent.number;
        }

        boolean isColumn() {
            return of(DIRECTION) == COLUMN;
        }

        boolean wraps() {
            return of(WRAP) == 1;
        }

        void unlink() {
            container = false;
            shown = false;
            firstKid = null;
            nextKid = null;
            kids = 0;
        }

        /** Boxes come here in the order of their numbers, so those with equal ORDER stay so. */
        void adopt(Box kid) {
            Box before = null;
            for (Box other = firstKid; other != null && other.of(ORDER) <= kid.of(ORDER);
                    other = other.nextKid) {
                before = other;
            }
            if (before == null) {
                kid.nextKid = firstKid;
                firstKid = kid;
            } else {
                kid.nextKid = before.nextKid;
                before.nextKid = kid;
            }
            kids++;
        }

        int innerWidth() {
            return Math.max(width - 2 * of(PADDING), 0);
        }

        int innerHeight() {
            return Math.max(height - 2 * of(PADDING), 0);
        }

        int margins() {
            return 2 * of(MARGIN);
        }

        /** The limits of the root have no effect. */
        int limitWidth(int length) {
            return isRoot() ? length : limited(length, of(MIN_WIDTH), of(MAX_WIDTH));
        }

        int limitHeight(int length) {
            return isRoot() ? length : limited(length, of(MIN_HEIGHT), of(MAX_HEIGHT));
        }

        /** WIDTH or HEIGHT; the sizes of the root have no effect. */
        int fixedSize(int property) {
            return isRoot() ? NONE : of(property);
        }

        int alignment() {
            if (of(SELF) != NONE || parent == null) {
                return of(SELF);
            }
            return parent.of(ALIGN);
        }

        int textLines() {
            int fitting = Math.max(innerWidth() / CHARACTER_WIDTH, 1);
            return (of(TEXT) + fitting - 1) / fitting;
        }

        boolean covers(int px, int py) {
            return px >= x && px < x + width && py >= y && py < y + height;
        }
    }

    /** The boxes and the viewport: all that save keeps. */
    private static final class Tree {
        final Box[] boxes = new Box[MOST_BOXES];
        final Box root = new Box(0);
        int given = 1;
        int viewportWidth = 800;
        int viewportHeight = 600;

        Tree() {
            boxes[0] = root;
            for (int number = 1; number < MOST_BOXES; number++) {
                boxes[number] = new Box(number);
            }
            root.begin(null);
        }

        Box at(int number) {
            return number >= 0 && number < MOST_BOXES ? boxes[number] : null;
        }

        Box shownAt(int number) {
            Box box = at(number);
            return box != null && box.exists && box.shown ? box : null;
        }

        boolean isFull() {
            return given >= MOST_BOXES;
        }

        int append(Box above) {
            Box box = at(given);
            if (box == null) {
                return NONE;
            }
            box.begin(above);
            given++;
            return box.number;
        }

        /** A box has a greater number than its parent: one pass upward finds all that fall. */
        int cut(Box top) {
            top.exists = false;
            int count = 1;
            for (int number = top.number + 1; number < MOST_BOXES; number++) {
                Box box = at(number);
                if (box != null && box.exists && box.parent != null && !box.parent.exists) {
                    box.exists = false;
                    count++;
                }
            }
            return count;
        }

        int count() {
            int count = 0;
            for (int number = 0; number < MOST_BOXES; number++) {
                Box box = at(number);
                if (box != null && box.exists) {
                    count++;
                }
            }
            return count;
        }

        void link() {
            for (int number = 0; number < MOST_BOXES; number++) {
                Box box = at(number);
                if (box != null) {
                    box.unlink();
                }
            }
            root.shown = true;
            for (int number = 1; number < MOST_BOXES; number++) {
                Box box = at(number);
                if (box != null && box.exists && box.parent != null) {
                    box.parent.container = true;
                    if (box.of(HIDDEN) == 0) {
                        box.shown = box.parent.shown;
                        box.parent.adopt(box);
                    }
                }
            }
        }

        void copyTo(Snapshot kept) {
            kept.given = given;
            kept.viewportWidth = viewportWidth;
            kept.viewportHeight = viewportHeight;
            for (int number = 0; number < MOST_BOXES; number++) {
                Box box = at(number);
                if (box != null) {
                    kept.exists[number] = box.exists;
                    kept.parents[number] = box.parentNumber();
                    System.arraycopy(box.style, 0, kept.styles[number], 0, PROPERTIES);
                }
            }
        }

        void takeFrom(Snapshot kept) {
            given = kept.given;
            viewportWidth = kept.viewportWidth;
            viewportHeight = kept.viewportHeight;
            for (int number = 0; number < MOST_BOXES; number++) {
                Box box = at(number);
                if (box != null) {
                    box.exists = kept.exists[number];
                    box.parent = at(kept.parents[number]);
                    System.arraycopy(kept.styles[number], 0, box.style, 0, PROPERTIES);
                }
            }
        }
    }

    /** What a slot keeps. */
    private static final class Snapshot {
        final boolean[] exists = new boolean[MOST_BOXES];
        final int[] parents = new int[MOST_BOXES];
        final int[][] styles = new int[MOST_BOXES][PROPERTIES];
        int given;
        int viewportWidth;
        int viewportHeight;
    }

    /** FLEXING: put the boxes of a line in, share the space, and read their sizes. */
    private static final class Flex {
        final int[] bases = new int[MOST_BOXES];
        final int[] leasts = new int[MOST_BOXES];
        final int[] greatests = new int[MOST_BOXES];
        final int[] grows = new int[MOST_BOXES];
        final int[] shrinks = new int[MOST_BOXES];
        final int[] factors = new int[MOST_BOXES];
        final int[] sizes = new int[MOST_BOXES];
        final int[] deviations = new int[MOST_BOXES];
        final boolean[] settled = new boolean[MOST_BOXES];
        int count;
        int margins;

        void clear() {
            count = 0;
            margins = 0;
        }

        void put(Box kid, boolean wide) {
            if (count >= MOST_BOXES) {
                return;
            }
            bases[count] = baseOf(kid, wide);
            leasts[count] = kid.of(wide ? MIN_WIDTH : MIN_HEIGHT);
            greatests[count] = kid.of(wide ? MAX_WIDTH : MAX_HEIGHT);
            grows[count] = kid.of(GROW);
            shrinks[count] = kid.of(SHRINK);
            margins += kid.margins();
            count++;
        }

        static int baseOf(Box kid, boolean wide) {
            if (kid.of(BASIS) != NONE) {
                return kid.of(BASIS);
            }
            return wide ? kid.naturalWidth : kid.naturalHeight;
        }

        int sizeAt(int place) {
            return place >= 0 && place < MOST_BOXES ? sizes[place] : 0;
        }

        void share(int space, int gap) {
            int room = space - margins - gaps(count, gap);
            boolean growing = begin() < room;
            for (int place = 0; place < count && place < MOST_BOXES; place++) {
                factors[place] = growing ? grows[place] : shrinks[place] * bases[place];
                settled[place] = factors[place] == 0
                        || (growing ? bases[place] > sizes[place] : bases[place] < sizes[place]);
            }
            // Each round settles one box at least.
            long open = openFactors();
            for (int round = 0; round < count && open > 0; round++) {
                int rest = restOf(room);
                settle(propose(Math.max(growing ? rest : -rest, 0), open, growing));
                open = openFactors();
            }
        }

        /** Gives all boxes their start sizes, and returns the sum of these. */
        private int begin() {
            int sum = 0;
            for (int place = 0; place < count && place < MOST_BOXES; place++) {
                sizes[place] = limited(bases[place], leasts[place], greatests[place]);
                sum += sizes[place];
            }
            return sum;
        }

        private int restOf(int room) {
            int rest = room;
            for (int place = 0; place < count && place < MOST_BOXES; place++) {
                rest -= settled[place] ? sizes[place] : bases[place];
            }
            return rest;
        }

        private long openFactors() {
            long sum = 0;
            for (int place = 0; place < count && place < MOST_BOXES; place++) {
                sum += settled[place] ? 0 : factors[place];
            }
            return sum;
        }

        /** Gives the boxes that are not settled their proposed sizes; returns all deviations. */
        private long propose(long amount, long allFactors, boolean growing) {
            long factorsSoFar = 0;
            long givenSoFar = 0;
            long sum = 0;
            for (int place = 0; place < count && place < MOST_BOXES; place++) {
                if (!settled[place] && allFactors > 0) {
                    factorsSoFar += factors[place];
                    long given = amount * factorsSoFar / allFactors;
                    int part = (int) (given - givenSoFar);
                    givenSoFar = given;
                    int size = bases[place] + (growing ? part : -part);
                    sizes[place] = size;
                    deviations[place] = limited(size, leasts[place], greatests[place]) - size;
                    sum += deviations[place];
                }
            }
            return sum;
        }

        private void settle(long sum) {
            for (int place = 0; place < count && place < MOST_BOXES; place++) {
                int own = deviations[place];
                if (!settled[place] && (sum == 0 || (sum > 0 ? own > 0 : own < 0))) {
                    sizes[place] += own;
                    settled[place] = true;
                }
            }
        }
    }

    /** The four steps of the layout, and what is asked of it. */
    private static final class Layout {
        private final Tree tree;
        private final Flex flex = new Flex();
        boolean stale = true;

        Layout(Tree tree) {
            this.tree = tree;
        }

        /** A box has a greater number than its parent, so the numbers give both orders. */
        void arrange() {
            if (!stale) {
                return;
            }
            stale = false;
            tree.link();
            for (int number = MOST_BOXES - 1; number >= 0; number--) {
                Box box = tree.shownAt(number);
                if (box != null) {
                    measureWidth(box);
                }
            }
            tree.root.width = tree.viewportWidth;
            for (int number = 0; number < MOST_BOXES; number++) {
                Box box = tree.shownAt(number);
                if (box != null) {
                    spreadWidths(box);
                }
            }
            for (int number = MOST_BOXES - 1; number >= 0; number--) {
                Box box = tree.shownAt(number);
                if (box != null) {
                    measureHeight(box);
                }
            }
            tree.root.height = tree.viewportHeight;
            for (int number = 0; number < MOST_BOXES; number++) {
                Box box = tree.shownAt(number);
                if (box != null && box.isColumn()) {
                    placeColumn(box);
                } else if (box != null) {
                    placeRow(box);
                }
            }
        }

        private static void measureWidth(Box box) {
            int size = box.fixedSize(WIDTH);
            if (size == NONE) {
                size = contentWidth(box) + 2 * box.of(PADDING);
            }
            box.naturalWidth = box.limitWidth(size);
        }

        private static int contentWidth(Box box) {
            if (!box.container) {
                return CHARACTER_WIDTH * box.of(TEXT);
            }
            int sum = gaps(box.kids, box.of(GAP));
            int widest = 0;
            for (Box kid = box.firstKid; kid != null; kid = kid.nextKid) {
                int outer = kid.naturalWidth + kid.margins();
                sum += outer;
                widest = Math.max(widest, outer);
            }
            return box.isColumn() ? widest : sum;
        }

        private void spreadWidths(Box box) {
            if (box.isColumn()) {
                spreadColumn(box);
                return;
            }
            breakLines(box);
            Box first = box.firstKid;
            for (int line = 0; line < box.lineCount && first != null; line++) {
                Box end = lineEnd(first);
                flexKids(first, end, true, box.innerWidth(), box.of(GAP));
                first = end;
            }
        }

        private static void spreadColumn(Box box) {
            int place = 0;
            for (Box kid = box.firstKid; kid != null; kid = kid.nextKid) {
                int available = Math.max(box.innerWidth() - kid.margins(), 0);
                int size = kid.of(WIDTH);
                if (size == NONE) {
                    size = kid.alignment() == STRETCH
                            ? available : Math.min(available, kid.naturalWidth);
                }
                kid.width = kid.limitWidth(size);
                kid.line = place;
                place++;
            }
            box.lineCount = place;
        }

        private static void breakLines(Box box) {
            int line = 0;
            int used = 0;
            for (Box kid = box.firstKid; kid != null; kid = kid.nextKid) {
                int outer = kid.limitWidth(Flex.baseOf(kid, true)) + kid.margins();
                if (kid == box.firstKid) {
                    used = outer;
                } else if (box.wraps() && used + box.of(GAP) + outer > box.innerWidth()) {
                    line++;
                    used = outer;
                } else {
                    used += box.of(GAP) + outer;
                }
                kid.line = line;
            }
            box.lineCount = box.firstKid == null ? 0 : line + 1;
        }

        /** The first child behind the line that begins with this one. */
        private static Box lineEnd(Box first) {
            Box end = first;
            while (end != null && end.line == first.line) {
                end = end.nextKid;
            }
            return end;
        }

        private void flexKids(Box first, Box end, boolean wide, int space, int gap) {
            flex.clear();
            for (Box kid = first; kid != null && kid != end; kid = kid.nextKid) {
                flex.put(kid, wide);
            }
            flex.share(space, gap);
            int place = 0;
            for (Box kid = first; kid != null && kid != end; kid = kid.nextKid) {
                if (wide) {
                    kid.width = flex.sizeAt(place);
                } else {
                    kid.height = flex.sizeAt(place);
                }
                place++;
            }
        }

        private static void measureHeight(Box box) {
            if (!box.container) {
                box.lineCount = box.textLines();
            }
            int size = box.fixedSize(HEIGHT);
            if (size == NONE) {
                size = contentHeight(box) + 2 * box.of(PADDING);
            }
            box.naturalHeight = box.limitHeight(size);
        }

        private static int contentHeight(Box box) {
            if (!box.container) {
                return TEXT_LINE_HEIGHT * box.lineCount;
            }
            int sum = gaps(box.lineCount, box.of(GAP));
            Box first = box.firstKid;
            // A child of a column is a line by itself, so columns need no case of their own.
            for (int line = 0; line < box.lineCount && first != null; line++) {
                Box end = lineEnd(first);
                sum += lineHeight(first, end);
                first = end;
            }
            return sum;
        }

        private static int lineHeight(Box first, Box end) {
            int highest = 0;
            for (Box kid = first; kid != null && kid != end; kid = kid.nextKid) {
                highest = Math.max(highest, kid.naturalHeight + kid.margins());
            }
            return highest;
        }

        private static void placeRow(Box box) {
            int top = box.y + box.of(PADDING);
            Box first = box.firstKid;
            for (int line = 0; line < box.lineCount && first != null; line++) {
                Box end = lineEnd(first);
                int high = box.wraps() ? lineHeight(first, end) : box.innerHeight();
                placeLine(box, first, end, top, high);
                top += high + box.of(GAP);
                first = end;
            }
        }

        private void placeColumn(Box box) {
            flexKids(box.firstKid, null, false, box.innerHeight(), box.of(GAP));
            int free = box.innerHeight() - gaps(box.kids, box.of(GAP));
            for (Box kid = box.firstKid; kid != null; kid = kid.nextKid) {
                free -= kid.height + kid.margins();
            }
            int left = box.x + box.of(PADDING);
            int top = box.y + box.of(PADDING);
            int place = 0;
            for (Box kid = box.firstKid; kid != null; kid = kid.nextKid) {
                int across = box.innerWidth() - kid.width - kid.margins();
                kid.x = left + alignShift(kid.alignment(), across) + kid.of(MARGIN);
                kid.y = top + justifyShift(box.of(JUSTIFY), free, place, box.kids)
                        + kid.of(MARGIN);
                top += kid.height + kid.margins() + box.of(GAP);
                place++;
            }
        }

        private static void placeLine(Box box, Box first, Box end, int top, int high) {
            int count = 0;
            int free = box.innerWidth();
            for (Box kid = first; kid != null && kid != end; kid = kid.nextKid) {
                count++;
                free -= kid.width + kid.margins();
            }
            free -= gaps(count, box.of(GAP));
            int left = box.x + box.of(PADDING);
            int place = 0;
            for (Box kid = first; kid != null && kid != end; kid = kid.nextKid) {
                kid.height = heightInLine(kid, high);
                int across = high - kid.height - kid.margins();
                kid.x = left + justifyShift(box.of(JUSTIFY), free, place, count)
                        + kid.of(MARGIN);
                kid.y = top + alignShift(kid.alignment(), across) + kid.of(MARGIN);
                left += kid.width + kid.margins() + box.of(GAP);
                place++;
            }
        }

        private static int heightInLine(Box kid, int high) {
            int size = kid.of(HEIGHT);
            if (size == NONE) {
                size = kid.alignment() == STRETCH
                        ? Math.max(high - kid.margins(), 0) : kid.naturalHeight;
            }
            return kid.limitHeight(size);
        }

        private static int justifyShift(int justify, int free, int place, int count) {
            if (free <= 0 || count < 1) {
                return 0;
            }
            switch (justify) {
                case END:
                    return free;
                case CENTER:
                    return free / 2;
                case BETWEEN:
                    return count > 1 ? free * place / (count - 1) : 0;
                case EVENLY:
                    return free * (place + 1) / (count + 1);
                default:
                    return 0;
            }
        }

        private static int alignShift(int alignment, int free) {
            if (free <= 0) {
                return 0;
            }
            switch (alignment) {
                case END:
                    return free;
                case CENTER:
                    return free / 2;
                default:
                    return 0;
            }
        }

        static int kidsOverflow(Box box) {
            int right = 0;
            int down = 0;
            for (Box kid = box.firstKid; kid != null; kid = kid.nextKid) {
                if (kid.x + kid.width + kid.of(MARGIN) > box.x + box.width - box.of(PADDING)) {
                    right = 1;
                }
                if (kid.y + kid.height + kid.of(MARGIN) > box.y + box.height - box.of(PADDING)) {
                    down = 2;
                }
            }
            return right + down;
        }

        static int textOverflow(Box box) {
            boolean right = box.of(TEXT) > 0 && box.innerWidth() < CHARACTER_WIDTH;
            boolean down = TEXT_LINE_HEIGHT * box.lineCount > box.innerHeight();
            return (right ? 1 : 0) + (down ? 2 : 0);
        }

        int topmostAt(int px, int py) {
            int topmost = NONE;
            Box box = tree.root;
            for (int painted = 0; painted < MOST_BOXES && box != null; painted++) {
                if (box.covers(px, py)) {
                    topmost = box.number;
                }
                box = paintedAfter(box);
            }
            return topmost;
        }

        private static Box paintedAfter(Box box) {
            if (box.firstKid != null) {
                return box.firstKid;
            }
            Box done = box;
            while (done != null && done.nextKid == null) {
                done = done.parent;
            }
            return done == null ? null : done.nextKid;
        }

        int narrowestFor(Box box, int n) {
            if (!linesVary(box)) {
                return box.lineCount <= n ? 0 : NONE;
            }
            if (n < 1) {
                return NONE;
            }
            for (Box below = box; below != null && below.parent != null; below = below.parent) {
                below.parent.heir = below;
            }
            // More width can mean more lines (a neighbour grows), so every width is tried.
            for (int width = 0; width <= WIDEST_VIEWPORT; width++) {
                if (linesAt(box, width) <= n) {
                    return width;
                }
            }
            return NONE;
        }

        private static boolean linesVary(Box box) {
            if (!box.container) {
                return box.of(TEXT) > 0;
            }
            return !box.isColumn() && box.wraps() && box.kids > 1;
        }

        /** Only the boxes on the way from the root to this one and their children matter. */
        private int linesAt(Box box, int width) {
            tree.root.width = width;
            for (Box above = tree.root; above != null && above != box; above = above.heir) {
                spreadWidths(above);
            }
            if (!box.container) {
                return box.textLines();
            }
            breakLines(box);
            return box.lineCount;
        }
    }
}

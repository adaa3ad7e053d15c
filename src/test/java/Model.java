import java.util.ArrayList;
import java.util.HashMap;
import java.util.List;
import java.util.Map;

/**
 * A second, slow writing of the document, kept apart from the class: it holds the tree as nested
 * lists, lays everything out anew for every question, and follows the words of the document.
 */
final class Model {
    static final int[] LEAST = new int[20];
    static final int[] MOST = new int[20];
    static final int[] INITIAL = new int[20];

    static {
        range(0, 0, 1, 0);
        range(1, 0, 1, 0);
        range(2, 0, 4, 0);
        range(3, 0, 3, 3);
        range(4, 0, 50, 0);
        range(5, 0, 50, 0);
        range(6, 0, 50, 0);
        range(7, -1, 1000, -1);
        range(8, 0, 9, 0);
        range(9, 0, 9, 1);
        range(10, -1, 1000, -1);
        range(11, -1, 1000, -1);
        range(12, 0, 1000, 0);
        range(13, 0, 1000, 0);
        range(14, 0, 10000, 10000);
        range(15, 0, 10000, 10000);
        range(16, -1, 3, -1);
        range(17, -9, 9, 0);
        range(18, 0, 1, 0);
        range(19, 0, 500, 0);
    }

    private static void range(int property, int least, int most, int initial) {
        LEAST[property] = least;
        MOST[property] = most;
        INITIAL[property] = initial;
    }

    static final class Node {
        int id;
        Node parent;
        List<Node> all = new ArrayList<>();
        int[] p = INITIAL.clone();
        int natW;
        int natH;
        int x;
        int y;
        int w;
        int h;
        List<List<Node>> rows = new ArrayList<>();

        List<Node> kids() {
            List<Node> shown = new ArrayList<>();
            for (Node k : all) {
                if (k.p[18] == 0) {
                    shown.add(k);
                }
            }
            shown.sort((a, b) -> a.p[17] != b.p[17] ? Integer.compare(a.p[17], b.p[17]) : Integer.compare(a.id, b.id));
            return shown;
        }

        boolean leaf() {
            return all.isEmpty();
        }

        boolean root() {
            return parent == null;
        }

        int align() {
            return p[16] == -1 ? parent.p[3] : p[16];
        }

        int limW(int v) {
            return root() ? v : Math.max(Math.min(v, p[14]), p[12]);
        }

        int limH(int v) {
            return root() ? v : Math.max(Math.min(v, p[15]), p[13]);
        }

        int innerW() {
            return Math.max(0, w - 2 * p[5]);
        }

        int innerH() {
            return Math.max(0, h - 2 * p[5]);
        }

        int textLines() {
            int fit = Math.max(1, innerW() / 8);
            return p[19] / fit + (p[19] % fit == 0 ? 0 : 1);
        }
    }

    static final class State {
        Map<Integer, Node> nodes = new HashMap<>();
        int added = 0;
        int vw = 800;
        int vh = 600;

        State copy() {
            State s = new State();
            s.added = added;
            s.vw = vw;
            s.vh = vh;
            for (int id = 0; id <= added; id++) {
                Node old = nodes.get(id);
                if (old != null) {
                    Node n = new Node();
                    n.id = id;
                    n.p = old.p.clone();
                    if (old.parent != null) {
                        n.parent = s.nodes.get(old.parent.id);
                        n.parent.all.add(n);
                    }
                    s.nodes.put(id, n);
                }
            }
            return s;
        }
    }

    State now = new State();
    State[] saved = new State[2];

    Model() {
        Node root = new Node();
        now.nodes.put(0, root);
    }

    private Node node(int id) {
        Node n = now.nodes.get(id);
        if (n == null) {
            throw new IndexOutOfBoundsException();
        }
        return n;
    }

    private Node shown(int id) {
        Node n = node(id);
        for (Node a = n; a.parent != null; a = a.parent) {
            if (a.p[18] == 1) {
                throw new IllegalStateException();
            }
        }
        layOut();
        return n;
    }

    int add(int parent) {
        Node above = node(parent);
        if (now.added == 39) {
            throw new IllegalStateException();
        }
        Node n = new Node();
        now.added++;
        n.id = now.added;
        n.parent = above;
        above.all.add(n);
        now.nodes.put(n.id, n);
        return n.id;
    }

    int remove(int box) {
        Node n = node(box);
        if (n.root()) {
            throw new IllegalArgumentException();
        }
        n.parent.all.remove(n);
        return forget(n);
    }

    private int forget(Node n) {
        int count = 1;
        for (Node k : n.all) {
            count += forget(k);
        }
        now.nodes.remove(n.id);
        return count;
    }

    int boxes() {
        return now.nodes.size();
    }

    int parent(int box) {
        Node n = node(box);
        return n.root() ? -1 : n.parent.id;
    }

    int child(int box, int index) {
        List<Node> kids = node(box).kids();
        if (index == -1) {
            return kids.size();
        }
        return index >= 0 && index < kids.size() ? kids.get(index).id : -1;
    }

    int set(int box, int property, int value) {
        Node n = node(box);
        if (property < 0 || property > 19 || value < LEAST[property] || value > MOST[property]) {
            throw new IllegalArgumentException();
        }
        int old = n.p[property];
        n.p[property] = value;
        return old;
    }

    int get(int box, int property) {
        Node n = node(box);
        if (property < 0 || property > 19) {
            throw new IllegalArgumentException();
        }
        return n.p[property];
    }

    int copyStyle(int from, int to) {
        Node a = node(from);
        Node b = node(to);
        int changed = 0;
        for (int property = 0; property <= 16; property++) {
            if (a.p[property] != b.p[property]) {
                changed++;
                b.p[property] = a.p[property];
            }
        }
        return changed;
    }

    int viewport(int width, int height) {
        if (width < 0 || width > 2000 || height < 0 || height > 2000) {
            throw new IllegalArgumentException();
        }
        now.vw = width;
        now.vh = height;
        return 0;
    }

    int x(int box) {
        return shown(box).x;
    }

    int y(int box) {
        return shown(box).y;
    }

    int width(int box) {
        return shown(box).w;
    }

    int height(int box) {
        return shown(box).h;
    }

    int naturalWidth(int box) {
        return shown(box).natW;
    }

    int naturalHeight(int box) {
        return shown(box).natH;
    }

    int lines(int box) {
        return linesOf(shown(box));
    }

    private static int linesOf(Node n) {
        if (n.leaf()) {
            return n.textLines();
        }
        return n.p[0] == 1 ? n.kids().size() : n.rows.size();
    }

    int lineOf(int box) {
        Node n = shown(box);
        if (n.root()) {
            return 0;
        }
        if (n.parent.p[0] == 1) {
            return n.parent.kids().indexOf(n);
        }
        for (int i = 0; i < n.parent.rows.size(); i++) {
            if (n.parent.rows.get(i).contains(n)) {
                return i;
            }
        }
        throw new AssertionError("no line");
    }

    int overflow(int box) {
        Node n = shown(box);
        boolean right = false;
        boolean down = false;
        if (n.leaf()) {
            right = n.p[19] > 0 && n.innerW() < 8;
            down = 16 * n.textLines() > n.innerH();
        }
        for (Node k : n.kids()) {
            right |= k.x + k.w + k.p[6] > n.x + n.w - n.p[5];
            down |= k.y + k.h + k.p[6] > n.y + n.h - n.p[5];
        }
        return (right ? 1 : 0) + (down ? 2 : 0);
    }

    int hit(int px, int py) {
        layOut();
        List<Node> painted = new ArrayList<>();
        paint(now.nodes.get(0), painted);
        int best = -1;
        for (Node n : painted) {
            if (px >= n.x && px < n.x + n.w && py >= n.y && py < n.y + n.h) {
                best = n.id;
            }
        }
        return best;
    }

    private static void paint(Node n, List<Node> painted) {
        painted.add(n);
        for (Node k : n.kids()) {
            paint(k, painted);
        }
    }

    int widthFor(int box, int n) {
        node(box);
        if (n < 0 || n > 100) {
            throw new IllegalArgumentException();
        }
        Node asked = shown(box);
        int before = now.vw;
        int found = -1;
        for (int w = 0; w <= 2000 && found == -1; w++) {
            now.vw = w;
            naturalWidths(now.nodes.get(0));
            now.nodes.get(0).w = w;
            widths(now.nodes.get(0));
            if (linesOf(asked) <= n) {
                found = w;
            }
        }
        now.vw = before;
        return found;
    }

    int save(int slot) {
        if (slot != 0 && slot != 1) {
            throw new IllegalArgumentException();
        }
        saved[slot] = now.copy();
        return 0;
    }

    int restore(int slot) {
        if (slot != 0 && slot != 1) {
            throw new IllegalArgumentException();
        }
        if (saved[slot] == null) {
            throw new IllegalStateException();
        }
        now = saved[slot].copy();
        return 0;
    }

    private void layOut() {
        Node root = now.nodes.get(0);
        naturalWidths(root);
        root.w = now.vw;
        widths(root);
        naturalHeights(root);
        root.h = now.vh;
        root.x = 0;
        root.y = 0;
        heights(root);
    }

    private static void naturalWidths(Node n) {
        int content = 0;
        List<Node> kids = n.kids();
        for (int i = 0; i < kids.size(); i++) {
            Node k = kids.get(i);
            naturalWidths(k);
            int outer = k.natW + 2 * k.p[6];
            if (n.p[0] == 0) {
                content += (i > 0 ? n.p[4] : 0) + outer;
            } else if (outer > content) {
                content = outer;
            }
        }
        if (n.leaf()) {
            content = 8 * n.p[19];
        }
        int size = content + 2 * n.p[5];
        if (!n.root() && n.p[10] != -1) {
            size = n.p[10];
        }
        n.natW = n.limW(size);
    }

    private static void widths(Node n) {
        List<Node> kids = n.kids();
        if (n.p[0] == 1) {
            for (Node k : kids) {
                int a = Math.max(0, n.innerW() - 2 * k.p[6]);
                int size;
                if (k.p[10] != -1) {
                    size = k.p[10];
                } else if (k.align() == 3) {
                    size = a;
                } else {
                    size = Math.min(a, k.natW);
                }
                k.w = k.limW(size);
            }
        } else {
            n.rows = new ArrayList<>();
            for (Node k : kids) {
                if (n.rows.isEmpty()) {
                    n.rows.add(new ArrayList<>());
                }
                List<Node> present = n.rows.get(n.rows.size() - 1);
                if (n.p[1] == 1 && !present.isEmpty()) {
                    int needed = n.p[4] * present.size() + startW(k) + 2 * k.p[6];
                    for (Node other : present) {
                        needed += startW(other) + 2 * other.p[6];
                    }
                    if (needed > n.innerW()) {
                        present = new ArrayList<>();
                        n.rows.add(present);
                    }
                }
                present.add(k);
            }
            for (List<Node> row : n.rows) {
                int[] sizes = flex(row, true, n.innerW(), n.p[4]);
                for (int i = 0; i < sizes.length; i++) {
                    row.get(i).w = sizes[i];
                }
            }
        }
        for (Node k : kids) {
            widths(k);
        }
    }

    private static int startW(Node k) {
        return k.limW(k.p[7] == -1 ? k.natW : k.p[7]);
    }

    private static void naturalHeights(Node n) {
        List<Node> kids = n.kids();
        for (Node k : kids) {
            naturalHeights(k);
        }
        int content = 0;
        if (n.leaf()) {
            content = 16 * n.textLines();
        } else if (n.p[0] == 1) {
            for (Node k : kids) {
                content += k.natH + 2 * k.p[6];
            }
            content += n.p[4] * Math.max(0, kids.size() - 1);
        } else {
            for (List<Node> row : n.rows) {
                content += rowHeight(row);
            }
            content += n.p[4] * Math.max(0, n.rows.size() - 1);
        }
        int size = content + 2 * n.p[5];
        if (!n.root() && n.p[11] != -1) {
            size = n.p[11];
        }
        n.natH = n.limH(size);
    }

    private static int rowHeight(List<Node> row) {
        int height = 0;
        for (Node k : row) {
            height = Math.max(height, k.natH + 2 * k.p[6]);
        }
        return height;
    }

    private static void heights(Node n) {
        List<Node> kids = n.kids();
        int left = n.x + n.p[5];
        int top = n.y + n.p[5];
        if (n.p[0] == 1) {
            int[] sizes = flex(kids, false, n.innerH(), n.p[4]);
            int[] places = justify(kids, sizes, n.innerH(), n.p[4], n.p[2]);
            for (int i = 0; i < sizes.length; i++) {
                Node k = kids.get(i);
                k.h = sizes[i];
                k.y = top + places[i];
                k.x = left + across(k, k.w, n.innerW());
            }
        } else {
            for (List<Node> row : n.rows) {
                int line = n.p[1] == 1 ? rowHeight(row) : n.innerH();
                int[] sizes = new int[row.size()];
                for (int i = 0; i < sizes.length; i++) {
                    sizes[i] = row.get(i).w;
                }
                int[] places = justify(row, sizes, n.innerW(), n.p[4], n.p[2]);
                for (int i = 0; i < sizes.length; i++) {
                    Node k = row.get(i);
                    int size;
                    if (k.p[11] != -1) {
                        size = k.p[11];
                    } else if (k.align() == 3) {
                        size = Math.max(0, line - 2 * k.p[6]);
                    } else {
                        size = k.natH;
                    }
                    k.h = k.limH(size);
                    k.x = left + places[i];
                    k.y = top + across(k, k.h, line);
                }
                top += line + n.p[4];
            }
        }
        for (Node k : kids) {
            heights(k);
        }
    }

    private static int[] justify(List<Node> boxes, int[] sizes, int space, int gap, int mode) {
        int m = sizes.length;
        int free = space - gap * Math.max(0, m - 1);
        for (int i = 0; i < m; i++) {
            free -= sizes[i] + 2 * boxes.get(i).p[6];
        }
        int[] places = new int[m];
        int before = 0;
        for (int k = 0; k < m; k++) {
            int margin = boxes.get(k).p[6];
            int moved = 0;
            if (free > 0 && mode == 1) {
                moved = free;
            } else if (free > 0 && mode == 2) {
                moved = free / 2;
            } else if (free > 0 && mode == 3 && m > 1) {
                moved = free * k / (m - 1);
            } else if (free > 0 && mode == 4) {
                moved = free * (k + 1) / (m + 1);
            }
            places[k] = before + moved + margin;
            before += sizes[k] + 2 * margin + gap;
        }
        return places;
    }

    private static int across(Node k, int size, int space) {
        int free = space - size - 2 * k.p[6];
        int moved = 0;
        if (free > 0 && k.align() == 1) {
            moved = free;
        }
        if (free > 0 && k.align() == 2) {
            moved = free / 2;
        }
        return moved + k.p[6];
    }

    private static int lim(Node k, boolean wide, long v) {
        return (int) Math.max(Math.min(v, k.p[wide ? 14 : 15]), k.p[wide ? 12 : 13]);
    }

    private static int[] flex(List<Node> boxes, boolean wide, int space, int gap) {
        int m = boxes.size();
        int gaps = gap * Math.max(0, m - 1);
        int[] base = new int[m];
        int[] start = new int[m];
        int margins = 0;
        int needed = gaps;
        for (int i = 0; i < m; i++) {
            Node k = boxes.get(i);
            base[i] = k.p[7] != -1 ? k.p[7] : wide ? k.natW : k.natH;
            start[i] = lim(k, wide, base[i]);
            margins += 2 * k.p[6];
            needed += start[i] + 2 * k.p[6];
        }
        boolean grow = needed < space;
        Integer[] fixed = new Integer[m];
        long[] factor = new long[m];
        for (int i = 0; i < m; i++) {
            Node k = boxes.get(i);
            factor[i] = grow ? k.p[8] : (long) k.p[9] * base[i];
            if (factor[i] == 0 || grow && base[i] > start[i] || !grow && base[i] < start[i]) {
                fixed[i] = start[i];
            }
        }
        while (true) {
            List<Integer> open = new ArrayList<>();
            long r = space - margins - gaps;
            long total = 0;
            for (int i = 0; i < m; i++) {
                r -= fixed[i] != null ? fixed[i] : base[i];
                if (fixed[i] == null) {
                    open.add(i);
                    total += factor[i];
                }
            }
            if (open.isEmpty()) {
                break;
            }
            long amount = grow ? Math.max(r, 0) : Math.max(-r, 0);
            long[] proposed = new long[m];
            long sum = 0;
            for (int n = 0; n < open.size(); n++) {
                long with = 0;
                for (int j = 0; j <= n; j++) {
                    with += factor[open.get(j)];
                }
                int i = open.get(n);
                long part = amount * with / total - amount * (with - factor[i]) / total;
                proposed[i] = grow ? base[i] + part : base[i] - part;
                sum += lim(boxes.get(i), wide, proposed[i]) - proposed[i];
            }
            for (int i : open) {
                int size = lim(boxes.get(i), wide, proposed[i]);
                long deviation = size - proposed[i];
                if (sum == 0 || sum > 0 && deviation > 0 || sum < 0 && deviation < 0) {
                    fixed[i] = size;
                }
            }
        }
        int[] sizes = new int[m];
        for (int i = 0; i < m; i++) {
            sizes[i] = fixed[i];
        }
        return sizes;
    }
}

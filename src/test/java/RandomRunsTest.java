import java.util.Random;
import java.util.function.IntSupplier;

/** Runs of calls drawn from fixed seeds, each answer compared with that of the model. */
public final class RandomRunsTest {
    private static final int CALLS = 512;
    private static int wrong = 0;
    private static StringBuilder told;

    public static void main(String[] args) {
        int runs = args.length > 0 ? Integer.parseInt(args[0]) : 400;
        int from = args.length > 1 ? Integer.parseInt(args[1]) : 0;
        for (int seed = from; seed < from + runs && wrong < 3; seed++) {
            run(seed);
        }
        System.out.println("RandomRunsTest: " + (wrong == 0 ? "all as due" : wrong + " runs not as due"));
        if (wrong != 0) {
            System.exit(1);
        }
    }

    private static void run(int seed) {
        Random r = new Random(seed);
        FlexibleBoxes f = new FlexibleBoxes();
        Model m = new Model();
        told = new StringBuilder();
        int family = r.nextInt(4);
        int searches = 0;
        for (int call = 0; call < CALLS; call++) {
            boolean as;
            int kind = r.nextInt(100);
            if (kind < 12) {
                as = addOrRemove(r, f, m, family);
            } else if (kind < 45) {
                as = property(r, f, m, family);
            } else if (kind < 49) {
                int w = length(r, 2000);
                int h = length(r, 2000);
                as = same("viewport(" + w + ", " + h + ")",
                        () -> Due.done(() -> f.viewport(w, h)), () -> m.viewport(w, h));
            } else if (kind < 51) {
                int slot = r.nextInt(12) == 0 ? r.nextInt(6) - 2 : r.nextInt(2);
                as = r.nextBoolean()
                        ? same("save(" + slot + ")", () -> Due.done(() -> f.save(slot)), () -> m.save(slot))
                        : same("restore(" + slot + ")", () -> Due.done(() -> f.restore(slot)), () -> m.restore(slot));
            } else if (kind < 52 && searches < 4) {
                searches++;
                int b = box(r, m);
                int n = r.nextInt(15) == 0 ? r.nextInt(200) - 50 : r.nextInt(6);
                as = same("widthFor(" + b + ", " + n + ")", () -> f.widthFor(b, n), () -> m.widthFor(b, n));
            } else {
                as = question(r, f, m);
            }
            if (!as) {
                wrong++;
                System.out.println("seed " + seed + told);
                return;
            }
        }
    }

    private static boolean addOrRemove(Random r, FlexibleBoxes f, Model m, int family) {
        int b = box(r, m);
        if (family == 0 && r.nextInt(3) > 0) {
            b = m.now.added;
        } else if (family == 2 && r.nextInt(8) > 0) {
            b = r.nextInt(Math.min(m.now.added, 2) + 1);
        }
        return addOrRemoveAt(b, r, f, m);
    }

    private static boolean addOrRemoveAt(int b, Random r, FlexibleBoxes f, Model m) {
        if (r.nextInt(6) == 0) {
            return same("remove(" + b + ")", () -> f.remove(b), () -> m.remove(b));
        }
        return same("add(" + b + ")", () -> f.add(b), () -> m.add(b));
    }

    private static boolean property(Random r, FlexibleBoxes f, Model m, int family) {
        int b = box(r, m);
        if (r.nextInt(12) == 0) {
            int c = box(r, m);
            return same("copyStyle(" + b + ", " + c + ")", () -> f.copyStyle(b, c), () -> m.copyStyle(b, c));
        }
        int p = r.nextInt(60) == 0 ? r.nextInt(30) - 5 : r.nextInt(20);
        if (p == 18 && r.nextInt(2) == 0) {
            p = 19;
        }
        int property = p;
        int value = value(r, property, family);
        return same("set(" + b + ", " + property + ", " + value + ")",
                () -> f.set(b, property, value), () -> m.set(b, property, value));
    }

    private static int value(Random r, int property, int family) {
        if (property < 0 || property > 19) {
            return r.nextInt(3);
        }
        int least = Model.LEAST[property];
        int most = Model.MOST[property];
        switch (r.nextInt(12)) {
            case 0: return least;
            case 1: return most;
            case 2: return r.nextInt(4) == 0 ? least - 1 - r.nextInt(3) : Model.INITIAL[property];
            case 3: return r.nextInt(4) == 0 ? most + 1 + r.nextInt(3) : Model.INITIAL[property];
            case 4: return least + r.nextInt(most - least + 1);
            default: return least + r.nextInt(Math.min(most - least, family == 1 ? 1000 : 150) + 1);
        }
    }

    private static int length(Random r, int most) {
        switch (r.nextInt(8)) {
            case 0: return r.nextInt(3) == 0 ? -1 : 0;
            case 1: return r.nextInt(3) == 0 ? most + 1 : most;
            case 2: return r.nextInt(most + 1);
            default: return r.nextInt(700);
        }
    }

    private static int box(Random r, Model m) {
        return r.nextInt(25) == 0 ? r.nextInt(46) - 3 : r.nextInt(m.now.added + 1);
    }

    private static boolean question(Random r, FlexibleBoxes f, Model m) {
        int b = box(r, m);
        switch (r.nextInt(15)) {
            case 0: return same("boxes()", () -> f.boxes(), () -> m.boxes());
            case 1: return same("parent(" + b + ")", () -> f.parent(b), () -> m.parent(b));
            case 2: case 3:
                int i = r.nextInt(10) == 0 ? r.nextInt(60) - 20 : r.nextInt(5) - 1;
                return same("child(" + b + ", " + i + ")", () -> f.child(b, i), () -> m.child(b, i));
            case 4:
                int p = r.nextInt(26) - 3;
                return same("get(" + b + ", " + p + ")", () -> f.get(b, p), () -> m.get(b, p));
            case 5: case 6:
                int px = r.nextInt(10) == 0 ? r.nextInt() : r.nextInt(1000) - 20;
                int py = r.nextInt(10) == 0 ? r.nextInt() : r.nextInt(700) - 20;
                return same("hit(" + px + ", " + py + ")", () -> f.hit(px, py), () -> m.hit(px, py));
            case 7: return same("x(" + b + ")", () -> f.x(b), () -> m.x(b));
            case 8: return same("y(" + b + ")", () -> f.y(b), () -> m.y(b));
            case 9: return same("width(" + b + ")", () -> f.width(b), () -> m.width(b));
            case 10: return same("height(" + b + ")", () -> f.height(b), () -> m.height(b));
            case 11: return same("naturalWidth(" + b + ")", () -> f.naturalWidth(b), () -> m.naturalWidth(b));
            case 12: return same("naturalHeight(" + b + ")", () -> f.naturalHeight(b), () -> m.naturalHeight(b));
            case 13: return r.nextBoolean()
                    ? same("lines(" + b + ")", () -> f.lines(b), () -> m.lines(b))
                    : same("lineOf(" + b + ")", () -> f.lineOf(b), () -> m.lineOf(b));
            default: return same("overflow(" + b + ")", () -> f.overflow(b), () -> m.overflow(b));
        }
    }

    private static boolean same(String call, IntSupplier made, IntSupplier due) {
        String want = Due.outcome(due);
        String got = Due.outcome(made);
        told.append("\n").append(call).append(" = ").append(got);
        if (got.equals(want)) {
            return true;
        }
        told.append(", due is ").append(want);
        return false;
    }
}

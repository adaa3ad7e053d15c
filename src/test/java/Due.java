import java.util.function.IntSupplier;

/** Counts the answers that are not the ones that are due. */
final class Due {
    private int wrong = 0;

    void equal(String call, long got, long want) {
        if (got != want) {
            wrong++;
            System.out.println(call + " answered " + got + ", due is " + want);
        }
    }

    void same(String what, String got, String want) {
        if (!got.equals(want)) {
            wrong++;
            System.out.println(what + " gave " + got + ", due is " + want);
        }
    }

    void index(String call, IntSupplier made) {
        same(call, outcome(made), "throws.IndexOutOfBoundsException");
    }

    void argument(String call, IntSupplier made) {
        same(call, outcome(made), "throws.IllegalArgumentException");
    }

    void state(String call, IntSupplier made) {
        same(call, outcome(made), "throws.IllegalStateException");
    }

    /** The answer of a call, or the very class of what it throws. */
    static String outcome(IntSupplier made) {
        try {
            return String.valueOf(made.getAsInt());
        } catch (RuntimeException e) {
            return "throws." + e.getClass().getSimpleName();
        }
    }

    /** All that can be asked of an object, so that two states can be compared. */
    static String picture(FlexibleBoxes f) {
        StringBuilder all = new StringBuilder();
        all.append(f.boxes());
        for (int b = 0; b < 40; b++) {
            final int box = b;
            all.append("\n").append(b).append(':').append(outcome(() -> f.parent(box)));
            for (int i = -1; i < 39; i++) {
                final int index = i;
                String child = outcome(() -> f.child(box, index));
                all.append(' ').append(child);
                if (i >= 0 && child.equals("-1")) {
                    break;
                }
            }
            for (int p = 0; p < 20; p++) {
                final int property = p;
                all.append(' ').append(outcome(() -> f.get(box, property)));
            }
            all.append(' ').append(outcome(() -> f.x(box))).append(' ').append(outcome(() -> f.y(box)));
            all.append(' ').append(outcome(() -> f.width(box)));
            all.append(' ').append(outcome(() -> f.height(box)));
            all.append(' ').append(outcome(() -> f.naturalWidth(box)));
            all.append(' ').append(outcome(() -> f.naturalHeight(box)));
            all.append(' ').append(outcome(() -> f.lines(box)));
            all.append(' ').append(outcome(() -> f.lineOf(box)));
            all.append(' ').append(outcome(() -> f.overflow(box)));
        }
        return all.toString();
    }

    /** A call without an answer, as one that answers 0. */
    static int done(Runnable made) {
        made.run();
        return 0;
    }

    void end(String test) {
        System.out.println(test + ": " + (wrong == 0 ? "all as due" : wrong + " not as due"));
        if (wrong != 0) {
            System.exit(1);
        }
    }
}

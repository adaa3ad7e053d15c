import java.lang.reflect.Constructor;
import java.lang.reflect.Field;
import java.lang.reflect.Method;
import java.lang.reflect.Modifier;
import java.util.Set;
import java.util.TreeSet;

/** The public face: its constants, its methods, and no other member that is not private. */
public final class FaceTest {
    private static final Due DUE = new Due();

    public static void main(String[] args) throws IllegalAccessException {
        constants();
        methods();
        DUE.end("FaceTest");
    }

    private static void constants() throws IllegalAccessException {
        String[] due = {"DIRECTION 0", "WRAP 1", "JUSTIFY 2", "ALIGN 3", "GAP 4", "PADDING 5", "MARGIN 6",
            "BASIS 7", "GROW 8", "SHRINK 9", "WIDTH 10", "HEIGHT 11", "MIN_WIDTH 12", "MIN_HEIGHT 13",
            "MAX_WIDTH 14", "MAX_HEIGHT 15", "SELF 16", "ORDER 17", "HIDDEN 18", "TEXT 19", "ROW 0",
            "COLUMN 1", "START 0", "END 1", "CENTER 2", "BETWEEN 3", "EVENLY 4", "STRETCH 3", "NONE -1"};
        Set<String> found = new TreeSet<>();
        for (Field field : FlexibleBoxes.class.getDeclaredFields()) {
            if (!Modifier.isPrivate(field.getModifiers())) {
                DUE.equal(field.getName() + " is public, static and final", field.getModifiers(),
                        Modifier.PUBLIC | Modifier.STATIC | Modifier.FINAL);
                found.add(field.getName() + " " + field.getInt(null));
            }
        }
        DUE.same("the constants", found.toString(), new TreeSet<>(Set.of(due)).toString());
    }

    private static void methods() {
        String[] due = {"int add(1)", "int remove(1)", "int boxes(0)", "int parent(1)", "int child(2)",
            "int set(3)", "int get(2)", "int copyStyle(2)", "void viewport(2)", "int x(1)", "int y(1)",
            "int width(1)", "int height(1)", "int naturalWidth(1)", "int naturalHeight(1)", "int lines(1)",
            "int lineOf(1)", "int overflow(1)", "int hit(2)", "int widthFor(2)", "void save(1)",
            "void restore(1)"};
        Set<String> found = new TreeSet<>();
        for (Method method : FlexibleBoxes.class.getDeclaredMethods()) {
            if (!Modifier.isPrivate(method.getModifiers())) {
                DUE.equal(method.getName() + " is public", method.getModifiers(), Modifier.PUBLIC);
                for (Class<?> parameter : method.getParameterTypes()) {
                    DUE.same("a parameter of " + method.getName(), parameter.getName(), "int");
                }
                found.add(method.getReturnType() + " " + method.getName() + "(" + method.getParameterCount() + ")");
            }
        }
        DUE.same("the methods", found.toString(), new TreeSet<>(Set.of(due)).toString());
        Constructor<?>[] constructors = FlexibleBoxes.class.getDeclaredConstructors();
        DUE.equal("constructors", constructors.length, 1);
        DUE.equal("parameters of the constructor", constructors[0].getParameterCount(), 0);
        DUE.equal("the constructor is public", constructors[0].getModifiers(), Modifier.PUBLIC);
        DUE.equal("the class is public and final", FlexibleBoxes.class.getModifiers(),
                Modifier.PUBLIC | Modifier.FINAL);
    }
}

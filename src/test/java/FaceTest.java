import java.lang.reflect.Constructor;
import java.lang.reflect.Field;
import java.lang.reflect.Method;
import java.lang.reflect.Modifier;
import java.util.Set;
import java.util.TreeSet;

/** The public face is the document's, to the letter, and all else is hidden. */
public final class FaceTest {
    private static final Check CHECK = new Check("FaceTest");
    private static final String ARGUMENT = " IllegalArgumentException";
    private static final String INDEX = " IndexOutOfBoundsException";
    private static final String STATE = " IllegalStateException";
    private static final String MORE = " UnsupportedOperationException";
    private static final Set<String> FACE = Set.of(
            "int put(int,int,int)" + ARGUMENT + MORE,
            "int rule(int)" + ARGUMENT,
            "int encode()",
            "int byteAt(int)" + INDEX,
            "int coded(int)",
            "int feed(int)" + ARGUMENT + MORE,
            "int pass(int,int)" + INDEX + ARGUMENT + MORE,
            "int decode()",
            "int at(int)" + INDEX,
            "int take()",
            "int frame(int,int,int,int,boolean,int,int)" + ARGUMENT + STATE + MORE,
            "int colour(int,int,int)" + INDEX + ARGUMENT,
            "int through(int,int)" + INDEX,
            "int shown(int,int,int)" + INDEX,
            "int symbol(int,int,int)" + INDEX,
            "int when(int,int)" + ARGUMENT,
            "int passOf(int)" + ARGUMENT,
            "int told(int)",
            "void clear()");

    public static void main(String[] args) {
        Class<?> face = PaletteFrames.class;
        CHECK.due("public and final", face.getModifiers(), Modifier.PUBLIC | Modifier.FINAL);
        methods(face);
        fields(face);
        classes(face);
        Constructor<?>[] made = face.getDeclaredConstructors();
        CHECK.due("constructors", made.length, 1);
        CHECK.due("constructor", made[0].toString(), "public PaletteFrames(int)");
        CHECK.finish();
    }

    private static void methods(Class<?> face) {
        Set<String> seen = new TreeSet<>();
        for (Method method : face.getDeclaredMethods()) {
            if (Modifier.isPublic(method.getModifiers())) {
                seen.add(written(method));
            } else {
                CHECK.due(method.getName() + " is private", method.getModifiers() & Modifier.PRIVATE, Modifier.PRIVATE);
                CHECK.due(method.getName() + " has a name of its own", isFaceName(method.getName()) ? 1 : 0, 0);
            }
        }
        CHECK.due("methods", seen.toString(), new TreeSet<>(FACE).toString());
    }

    private static boolean isFaceName(String name) {
        return FACE.stream().anyMatch(line -> line.contains(" " + name + "("));
    }

    private static String written(Method method) {
        StringBuilder line = new StringBuilder();
        line.append(method.getReturnType().getName()).append(' ').append(method.getName()).append('(');
        for (int i = 0; i < method.getParameterCount(); i++) {
            line.append(i == 0 ? "" : ",").append(method.getParameterTypes()[i].getName());
        }
        line.append(')');
        for (Class<?> thrown : method.getExceptionTypes()) {
            line.append(' ').append(thrown.getSimpleName());
        }
        return line.toString();
    }

    private static void fields(Class<?> face) {
        for (Field field : face.getDeclaredFields()) {
            boolean isConstant = field.getName().equals("NONE");
            int due = isConstant ? Modifier.PUBLIC : Modifier.PRIVATE;
            CHECK.due("field " + field.getName(), field.getModifiers() & (Modifier.PUBLIC | Modifier.PROTECTED
                    | Modifier.PRIVATE), due);
            if (Modifier.isStatic(field.getModifiers())) {
                CHECK.due("static " + field.getName(), field.getModifiers() & Modifier.FINAL, Modifier.FINAL);
            }
        }
    }

    private static void classes(Class<?> face) {
        CHECK.due("classes, some twelve", Math.max(12, face.getDeclaredClasses().length), 12);
        for (Class<?> inside : face.getDeclaredClasses()) {
            CHECK.due(inside.getName() + " is static", inside.getModifiers() & Modifier.STATIC, Modifier.STATIC);
            CHECK.due(inside.getName() + " is hidden",
                    inside.getModifiers() & (Modifier.PUBLIC | Modifier.PROTECTED), 0);
            for (Method method : inside.getDeclaredMethods()) {
                CHECK.due(inside.getName() + "." + method.getName() + " has a name of its own",
                        isFaceName(method.getName()) ? 1 : 0, 0);
            }
        }
    }
}

import java.lang.reflect.Constructor;
import java.lang.reflect.Field;
import java.lang.reflect.Method;
import java.lang.reflect.Modifier;
import java.util.Arrays;
import java.util.TreeSet;
import java.util.stream.Collectors;

/** The public face: every call of the document with its types and exceptions, and nothing else. */
final class FaceTest {
    private static final String NODE = " IndexOutOfBoundsException";
    private static final String VALUE = " IllegalArgumentException";
    private static final String KIND = " UnsupportedOperationException";
    private static final String STATE = " IllegalStateException";
    private static final String NONE = " NoSuchElementException";
    private static final String SUM = " ArithmeticException";

    private static final String[] FACE = {
        "int addJunction(int,int)" + NODE + VALUE + KIND + STATE,
        "int addTap(int,int,int,int,int)" + NODE + VALUE + KIND + STATE,
        "int setPump(int)" + VALUE,
        "int addLeak(int,int)" + NODE + VALUE,
        "int repair(int)" + NODE + NONE,
        "int nodes()",
        "int vacuum(int)" + NODE,
        "int vacuumBySweep(int)" + NODE,
        "int expectedVacuum(int)" + NODE,
        "int suspect(int)" + NONE,
        "int depth(int)" + NODE,
        "int pass(int)" + VALUE + STATE,
        "int hours()",
        "int charge(int)" + NODE + KIND,
        "int sapOf(int,int)" + NODE + KIND + NONE,
        "int totalOf(int)" + NODE + KIND,
        "int tapByYield(int)" + NONE,
        "int addTank(int)" + VALUE + STATE,
        "int drain(int)" + NODE,
        "int tankVolume(int)" + NODE,
        "int tankSugar(int)" + NODE,
        "int load(int,int)" + NODE + VALUE + KIND + STATE,
        "int setFire(int)" + VALUE,
        "int panVolume()",
        "int panSugar()",
        "boolean isReady()",
        "int hoursToReady()" + NONE,
        "int hoursByBoiling()" + NONE,
        "int draw()" + KIND + STATE,
        "int dump()",
        "int batches()",
        "int batchVolume(int)" + NODE,
        "char gradeOf(int)" + NODE,
        "long totalSap()",
        "long steam()",
        "long loss()",
        "long lossByBalance()",
        "long lostSugar()",
        "boolean isBalanced()",
        "float lossShare()" + SUM,
        "double meanSweetness()" + SUM,
    };

    public static void main(String[] args) {
        Class<?> face = SapNetwork.class;
        int modifiers = face.getModifiers();
        Check.due("public", Modifier.isPublic(modifiers), true);
        Check.due("final", Modifier.isFinal(modifiers), true);
        Check.due("package", face.getPackageName(), "");
        methods(face);
        members(face);
        Check.end("FaceTest");
    }

    private static void methods(Class<?> face) {
        TreeSet<String> due = new TreeSet<>(Arrays.asList(FACE));
        TreeSet<String> found = new TreeSet<>();
        TreeSet<String> names = new TreeSet<>();
        for (Method method : face.getDeclaredMethods()) {
            if (Modifier.isPublic(method.getModifiers())) {
                found.add(signature(method));
                names.add(method.getName());
            }
        }
        Check.due("the calls", found, due);
        for (Method method : face.getDeclaredMethods()) {
            if (!Modifier.isPublic(method.getModifiers())) {
                Check.due("private " + method, Modifier.isPrivate(method.getModifiers()), true);
                Check.due("a name of its own " + method, names.contains(method.getName()), false);
            }
        }
    }

    private static String signature(Method method) {
        return method.getReturnType() + " " + method.getName()
                + Arrays.stream(method.getParameterTypes())
                        .map(Class::getSimpleName)
                        .collect(Collectors.joining(",", "(", ")"))
                + Arrays.stream(method.getExceptionTypes())
                        .map(type -> " " + type.getSimpleName())
                        .collect(Collectors.joining());
    }

    private static void members(Class<?> face) {
        for (Field field : face.getDeclaredFields()) {
            Check.due("private " + field, Modifier.isPrivate(field.getModifiers()), true);
        }
        Constructor<?>[] constructors = face.getDeclaredConstructors();
        Check.due("one constructor", constructors.length, 1);
        Check.due("public", Modifier.isPublic(constructors[0].getModifiers()), true);
        Check.due("no arguments", constructors[0].getParameterCount(), 0);
        for (Class<?> inside : face.getDeclaredClasses()) {
            Check.due("static " + inside, Modifier.isStatic(inside.getModifiers()), true);
            Check.due("public " + inside, Modifier.isPublic(inside.getModifiers()), false);
        }
    }
}

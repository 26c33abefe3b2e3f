import java.io.IOException;
import java.io.UncheckedIOException;
import java.lang.reflect.Constructor;
import java.lang.reflect.Executable;
import java.lang.reflect.Field;
import java.lang.reflect.Method;
import java.lang.reflect.Modifier;
import java.nio.file.Files;
import java.nio.file.Path;
import java.util.Arrays;
import java.util.List;
import java.util.TreeSet;
import java.util.stream.Collectors;

/** The public face: every member of the document with its types and exceptions, and nothing else. */
final class FaceTest {
    private static final Path SOURCE = Path.of("src", "main", "java", "SapNetwork.java");

    public static void main(String[] args) {
        Class<?> face = SapNetwork.class;
        List<String> due = Document.read().face();
        Check.due("members in the document", due.size(), 1 + 1 + 41);
        Check.due("the class", declaration(face), due.get(0));
        members(face, due.subList(1, due.size()));
        inOrder(due);
        hidden(face);
        Check.end("FaceTest");
    }

    private static String declaration(Class<?> face) {
        return Modifier.toString(face.getModifiers()) + " class " + face.getName() + " {";
    }

    /** The members as the machine sees them, which knows no names of parameters. */
    private static void members(Class<?> face, List<String> due) {
        TreeSet<String> found = new TreeSet<>();
        for (Constructor<?> constructor : face.getDeclaredConstructors()) {
            found.add(signature(constructor, "SapNetwork"));
        }
        for (Method method : face.getDeclaredMethods()) {
            if (!Modifier.isPrivate(method.getModifiers())) {
                found.add(signature(method, method.getReturnType() + " " + method.getName()));
            }
        }
        TreeSet<String> said = new TreeSet<>();
        for (String member : due) {
            said.add(member.replaceAll("(int) [a-z]+(?=[,)])", "$1"));
        }
        Check.due("the members", found, said);
    }

    private static String signature(Executable member, String name) {
        String exceptions = list(member.getExceptionTypes(), ", ");
        return Modifier.toString(member.getModifiers()) + " " + name
                + "(" + list(member.getParameterTypes(), ", ") + ")"
                + (exceptions.isEmpty() ? "" : " throws " + exceptions);
    }

    private static String list(Class<?>[] types, String between) {
        return Arrays.stream(types).map(Class::getSimpleName).collect(Collectors.joining(between));
    }

    /** The members as the source writes them, in the document's order. */
    private static void inOrder(List<String> due) {
        String source = read().replaceAll("\\s+", " ");
        int at = 0;
        for (String member : due) {
            int next = source.indexOf(member.endsWith("{") ? member : member + " {", at);
            Check.due("in its place in the source: " + member, next >= at, true);
            at = Math.max(at, next);
        }
    }

    private static String read() {
        try {
            return Files.readString(SOURCE);
        } catch (IOException e) {
            throw new UncheckedIOException(e);
        }
    }

    private static void hidden(Class<?> face) {
        TreeSet<String> names = new TreeSet<>();
        for (Method method : face.getMethods()) {
            names.add(method.getName());
        }
        privateNames(face, names);
        for (Field field : face.getDeclaredFields()) {
            Check.due("private " + field, Modifier.isPrivate(field.getModifiers()), true);
        }
        for (Class<?> inside : face.getDeclaredClasses()) {
            Check.due("static " + inside, Modifier.isStatic(inside.getModifiers()), true);
            Check.due("public " + inside, Modifier.isPublic(inside.getModifiers()), false);
            Check.due("protected " + inside, Modifier.isProtected(inside.getModifiers()), false);
            privateNames(inside, names);
        }
    }

    private static void privateNames(Class<?> some, TreeSet<String> publicNames) {
        for (Method method : some.getDeclaredMethods()) {
            if (Modifier.isPrivate(method.getModifiers())) {
                boolean isTaken = publicNames.contains(method.getName());
                Check.due("the name of " + method + " is public too", isTaken, false);
            }
        }
    }
}

import java.io.IOException;
import java.lang.reflect.Constructor;
import java.lang.reflect.Field;
import java.lang.reflect.Method;
import java.lang.reflect.Modifier;
import java.nio.file.Files;
import java.nio.file.Path;
import java.util.Set;
import java.util.TreeSet;

/** The face of the class is the one that ../shared/DOC.md shows, and nothing more can be seen from outside. */
public final class FaceTest {
    private FaceTest() {
    }

    public static void main(String[] args) throws IOException {
        Checks.due("the face", faceOfClass(), faceOfDocument());
        int modifiers = CrossdockSorter.class.getModifiers();
        Checks.due("the class is public and final", Modifier.isPublic(modifiers) && Modifier.isFinal(modifiers), true);
        Checks.due("the constructors", CrossdockSorter.class.getDeclaredConstructors().length, 1);
        for (Constructor<?> constructor : CrossdockSorter.class.getDeclaredConstructors()) {
            Checks.due("the constructor is public", Modifier.isPublic(constructor.getModifiers()), true);
        }
        for (Field field : CrossdockSorter.class.getDeclaredFields()) {
            Checks.due("private: " + field, Modifier.isPrivate(field.getModifiers()), true);
            Checks.due("final, if static: " + field,
                    !Modifier.isStatic(field.getModifiers()) || Modifier.isFinal(field.getModifiers()), true);
        }
        for (Class<?> inside : CrossdockSorter.class.getDeclaredClasses()) {
            Checks.due("private and static: " + inside,
                    Modifier.isPrivate(inside.getModifiers()) && Modifier.isStatic(inside.getModifiers()), true);
        }
        Checks.end("FaceTest");
    }

    private static Set<String> faceOfClass() {
        Set<String> privateNames = new TreeSet<>();
        Set<String> face = new TreeSet<>();
        for (Method method : CrossdockSorter.class.getDeclaredMethods()) {
            if (Modifier.isPrivate(method.getModifiers())) {
                privateNames.add(method.getName());
            } else {
                face.add(signatureOf(method));
            }
        }
        for (Method method : CrossdockSorter.class.getDeclaredMethods()) {
            if (!Modifier.isPrivate(method.getModifiers())) {
                Checks.due("a private " + method.getName(), privateNames.contains(method.getName()), false);
            }
        }
        return face;
    }

    private static String signatureOf(Method method) {
        StringBuilder text = new StringBuilder();
        text.append(Modifier.toString(method.getModifiers())).append(' ');
        text.append(method.getReturnType().getSimpleName()).append(' ').append(method.getName());
        for (Class<?> type : method.getParameterTypes()) {
            text.append(' ').append(type.getSimpleName());
        }
        for (Class<?> type : method.getExceptionTypes()) {
            text.append(" !").append(type.getSimpleName());
        }
        return text.toString();
    }

    private static Set<String> faceOfDocument() throws IOException {
        Set<String> face = new TreeSet<>();
        for (String line : Files.readAllLines(Path.of("../shared/DOC.md"))) {
            if (line.startsWith("    public ") && !line.contains("CrossdockSorter(")) {
                face.add(signatureOf(line.strip()));
            }
        }
        return face;
    }

    private static String signatureOf(String line) {
        int open = line.indexOf('(');
        int close = line.indexOf(')');
        StringBuilder text = new StringBuilder(line.substring(0, open));
        for (String parameter : line.substring(open + 1, close).split(",")) {
            if (!parameter.isBlank()) {
                text.append(' ').append(parameter.strip().split(" ")[0]);
            }
        }
        String thrown = line.substring(close + 1).replace("throws", "").replace(";", "");
        for (String name : thrown.split(",")) {
            if (!name.isBlank()) {
                text.append(" !").append(name.strip());
            }
        }
        return text.toString();
    }
}

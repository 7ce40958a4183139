import java.io.IOException;
import java.lang.reflect.Constructor;
import java.lang.reflect.Field;
import java.lang.reflect.Method;
import java.lang.reflect.Modifier;
import java.nio.file.Files;
import java.nio.file.Path;
import java.util.Set;
import java.util.TreeSet;

/** The class has the face of the document, and nothing more; the first argument is the path of DOC.md. */
public final class FaceTest {
    public static void main(String[] args) throws IOException {
        Class<?> type = RecordReconciler.class;
        Checks.same("public and final", type.getModifiers(), Modifier.PUBLIC | Modifier.FINAL);
        Checks.same("face", face(type), documented(Path.of(args[0])));
        for (Field field : type.getDeclaredFields()) {
            Checks.same("private " + field, Modifier.isPrivate(field.getModifiers()), true);
        }
        for (Method method : type.getDeclaredMethods()) {
            boolean isPublic = Modifier.isPublic(method.getModifiers());
            Checks.same("public or private " + method, isPublic || Modifier.isPrivate(method.getModifiers()), true);
            Checks.same("no private method bears the name of " + method.getName(),
                    isPublic || !publicNames(type).contains(method.getName()), true);
        }
        Checks.finish("FaceTest");
    }

    private static Set<String> publicNames(Class<?> type) {
        Set<String> names = new TreeSet<>();
        for (Method method : type.getDeclaredMethods()) {
            if (Modifier.isPublic(method.getModifiers())) {
                names.add(method.getName());
            }
        }
        return names;
    }

    private static Set<String> face(Class<?> type) {
        Set<String> face = new TreeSet<>();
        for (Constructor<?> constructor : type.getDeclaredConstructors()) {
            face.add("RecordReconciler(" + names(constructor.getParameterTypes()) + ")");
        }
        for (Method method : type.getDeclaredMethods()) {
            if (Modifier.isPublic(method.getModifiers())) {
                String thrown = names(method.getExceptionTypes());
                face.add(method.getReturnType().getSimpleName() + " " + method.getName() + "("
                        + names(method.getParameterTypes()) + ")" + (thrown.isEmpty() ? "" : " throws " + thrown));
            }
        }
        return face;
    }

    private static String names(Class<?>[] types) {
        StringBuilder text = new StringBuilder();
        for (Class<?> type : types) {
            text.append(text.length() > 0 ? ", " : "").append(type.getSimpleName());
        }
        return text.toString();
    }

    /** The members in the document's code, without the names of their parameters. */
    private static Set<String> documented(Path document) throws IOException {
        Set<String> face = new TreeSet<>();
        for (String line : Files.readAllLines(document)) {
            if (line.startsWith("    public ") && line.endsWith(";")) {
                String member = line.trim().replace("public ", "").replace(";", "");
                face.add(member.replaceAll("(char|int) \\w+([,)])", "$1$2"));
            }
        }
        return face;
    }
}

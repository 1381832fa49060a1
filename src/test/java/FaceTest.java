import java.io.IOException;
import java.lang.reflect.Constructor;
import java.lang.reflect.Field;
import java.lang.reflect.Method;
import java.lang.reflect.Modifier;
import java.nio.file.Files;
import java.nio.file.Path;
import java.util.Arrays;
import java.util.TreeSet;
import java.util.regex.Matcher;
import java.util.regex.Pattern;

/** The public face of the document, its constants, and those rules of the language that a text shows. */
public final class FaceTest {
    private static final String[] METHODS = {
        "int append(int,int)", "int prepend(int,int)", "int set(int,int,int)", "int concat(int,int)",
        "int slice(int,int,int)", "int insertAt(int,int,int)", "int removeAt(int,int)", "int thaw(int)",
        "boolean push(int,int)", "boolean put(int,int,int)", "boolean freeze(int)", "int versions()",
        "int size(int)", "long get(int,int)", "int hash(int)", "int compare(int,int)", "int height(int)",
        "int nodes(int)", "int row(int,int,int)", "int probes(int,int)",
    };
    private static final String[] FORBIDDEN = {
        "\\b(throw|throws|try|catch|finally|synchronized|assert|protected|package)\\b", "->", "::",
        "\\b(System\\.(?!arraycopy)|Thread|Random|Object|Exception|Error)\\b", "\\.(equals|hashCode|toString)\\(",
    };

    private final Checks checks = new Checks();

    public static void main(String[] args) throws IOException {
        FaceTest test = new FaceTest();
        test.constants();
        test.members();
        test.source(Files.readString(Path.of("src/main/java/RelaxedRadixVector.java")));
        test.checks.finish();
    }

    private void constants() {
        checks.due("NONE", RelaxedRadixVector.NONE, -1);
        checks.due("FULL", RelaxedRadixVector.FULL, -2);
        checks.due("LONG", RelaxedRadixVector.LONG, -3);
        checks.due("TALL", RelaxedRadixVector.TALL, -4);
        checks.due("OUT", RelaxedRadixVector.OUT, 4294967296L);
    }

    private void members() {
        Class<?> face = RelaxedRadixVector.class;
        checks.due("the class is public and final",
            Modifier.isPublic(face.getModifiers()) && Modifier.isFinal(face.getModifiers()), true);
        TreeSet<String> methods = new TreeSet<>();
        for (Method method : face.getDeclaredMethods()) {
            if (!Modifier.isPrivate(method.getModifiers())) {
                checks.due(method.getName() + " is public and not static", method.getModifiers(), Modifier.PUBLIC);
                String types = Arrays.toString(method.getParameterTypes()).replaceAll("[\\[\\] ]", "");
                methods.add(method.getReturnType() + " " + method.getName() + "(" + types + ")");
            }
        }
        checks.due("methods", methods.toString(), new TreeSet<>(Arrays.asList(METHODS)).toString());
        TreeSet<String> fields = new TreeSet<>();
        for (Field field : face.getDeclaredFields()) {
            if (!Modifier.isPrivate(field.getModifiers())) {
                fields.add(Modifier.toString(field.getModifiers()) + " " + field.getType() + " " + field.getName());
            }
        }
        checks.due("constants", fields.toString(), "[public static final int FULL, "
            + "public static final int LONG, public static final int NONE, public static final int TALL, "
            + "public static final long OUT]");
        Constructor<?>[] constructors = face.getDeclaredConstructors();
        checks.due("constructors", constructors.length, 1);
        checks.due("constructor's parameters", constructors[0].getParameterCount(), 0);
        checks.due("constructor is public", constructors[0].getModifiers(), Modifier.PUBLIC);
        for (Class<?> inside : face.getDeclaredClasses()) {
            checks.due(inside.getSimpleName() + " is static", Modifier.isStatic(inside.getModifiers()), true);
        }
    }

    private void source(String text) {
        String code = text.replaceAll("(?s)/\\*.*?\\*/", "").replaceAll("//[^\n]*", "");
        for (String pattern : FORBIDDEN) {
            Matcher matcher = Pattern.compile(pattern).matcher(code);
            checks.due("first find of " + pattern, matcher.find() ? matcher.group() : "", "");
        }
        Matcher imports = Pattern.compile("import [^;]*;").matcher(code);
        TreeSet<String> found = new TreeSet<>();
        while (imports.find()) {
            found.add(imports.group());
        }
        checks.due("imports", found.toString(), "[import java.util.ArrayList;]");
    }
}

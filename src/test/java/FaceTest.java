import java.io.IOException;
import java.lang.reflect.Constructor;
import java.lang.reflect.Field;
import java.lang.reflect.Method;
import java.lang.reflect.Modifier;
import java.nio.file.Files;
import java.nio.file.Path;
import java.util.Arrays;
import java.util.Set;
import java.util.TreeSet;

/** The face has what the document lists and nothing else, and the source keeps to LANGUAGE.md where a search can tell. */
public final class FaceTest {
    private static final String ARGUMENT = " IllegalArgumentException";
    private static final String ELEMENT = " NoSuchElementException";
    private static final String INDEX = " IndexOutOfBoundsException";
    private static final String STATE = " IllegalStateException";
    private static final String UNSUPPORTED = " UnsupportedOperationException";

    private static final String[] FACE = {
        "int put(int)" + ARGUMENT + UNSUPPORTED, "void end(int)" + ARGUMENT, "int build(int,int)" + ARGUMENT,
        "int built(int)" + ARGUMENT, "long tag(int,int)" + ARGUMENT, "void retag(int,int,int)" + ARGUMENT + ELEMENT + UNSUPPORTED,
        "void untag(int,int)" + ARGUMENT + ELEMENT + UNSUPPORTED, "int image(int,int,int)" + ARGUMENT + ELEMENT,
        "long layer(int,int,int)" + ARGUMENT + ELEMENT + INDEX, "int entry(int,int,int,int,int)" + ARGUMENT + ELEMENT + INDEX,
        "int blob(int,long)" + ARGUMENT, "int byteOf(int,long,int)" + ARGUMENT + ELEMENT + INDEX, "int yard(int,int)" + ARGUMENT,
        "int journal(int,int)" + ARGUMENT + INDEX, "void sync(int)" + ARGUMENT, "int crash(int,int,int)" + ARGUMENT,
        "int collect(int)" + ARGUMENT, "int send(int,int,int)" + ARGUMENT + ELEMENT + STATE, "int deliver(int)" + ARGUMENT + STATE,
        "void lose(int,boolean)" + ARGUMENT + STATE, "int transfer(int,int)" + ARGUMENT,
    };

    private static final String[] NOT_IN_THE_SOURCE = {
        "->", "::", "finally", "synchronized", "assert", "catch", "@", "System.out", "package ", "Exact(", "hashCode",
        "import java.util.*", "String.", "static {", "\" +", "+ \"",
    };

    public static void main(String[] args) throws IOException {
        Check check = new Check();
        face(check);
        members(check);
        source(check);
        check.end();
    }

    private static void face(Check check) {
        Set<String> due = new TreeSet<>(Arrays.asList(FACE));
        Set<String> got = new TreeSet<>();
        for (Method method : ImageYard.class.getDeclaredMethods()) {
            if (Modifier.isPublic(method.getModifiers())) {
                got.add(told(method));
            }
        }
        check.holds("the public methods are " + due + " (they are " + got + ")", got.equals(due));
        Constructor<?>[] constructors = ImageYard.class.getDeclaredConstructors();
        check.due("how many constructors", constructors.length, 1);
        check.due("parameters of the constructor", constructors[0].getParameterCount(), 0);
        check.holds("the class is public and final", Modifier.isPublic(ImageYard.class.getModifiers())
                && Modifier.isFinal(ImageYard.class.getModifiers()));
        check.due("NONE", ImageYard.NONE, -1);
    }

    private static String told(Method method) {
        StringBuilder out = new StringBuilder();
        out.append(method.getReturnType()).append(' ').append(method.getName()).append('(');
        for (Class<?> type : method.getParameterTypes()) {
            out.append(out.charAt(out.length() - 1) == '(' ? "" : ",").append(type);
        }
        out.append(')');
        for (Class<?> type : method.getExceptionTypes()) {
            out.append(' ').append(type.getSimpleName());
        }
        return out.toString();
    }

    private static void members(Check check) {
        Set<String> names = new TreeSet<>();
        for (String method : FACE) {
            names.add(method.substring(method.indexOf(' ') + 1, method.indexOf('(')));
        }
        for (Method method : ImageYard.class.getDeclaredMethods()) {
            boolean isPublic = Modifier.isPublic(method.getModifiers());
            check.holds(method + " is public or private", isPublic || Modifier.isPrivate(method.getModifiers()));
            check.holds(method + " has a name of its own", isPublic || !names.contains(method.getName()));
        }
        for (Field field : ImageYard.class.getDeclaredFields()) {
            check.holds(field + " is private or NONE",
                    Modifier.isPrivate(field.getModifiers()) || field.getName().equals("NONE"));
        }
        check.holds("at most twelve classes", ImageYard.class.getDeclaredClasses().length + 1 <= 12);
        for (Class<?> inside : ImageYard.class.getDeclaredClasses()) {
            nested(check, inside, names);
        }
    }

    private static void nested(Check check, Class<?> inside, Set<String> names) {
        check.holds(inside + " is static", Modifier.isStatic(inside.getModifiers()));
        check.holds(inside + " isn't public", !Modifier.isPublic(inside.getModifiers()));
        int own = 0;
        for (Field field : inside.getDeclaredFields()) {
            boolean isStatic = Modifier.isStatic(field.getModifiers());
            check.holds(field + " is no static state", !isStatic || Modifier.isFinal(field.getModifiers()));
            own += isStatic ? 0 : 1;
        }
        check.holds(inside + " has at most twenty fields", own <= 20);
        for (Method method : inside.getDeclaredMethods()) {
            check.holds(method + " has a name of its own", !names.contains(method.getName()));
            check.holds(method + " has at most seven parameters", method.getParameterCount() <= 7);
        }
    }

    private static void source(Check check) throws IOException {
        String source = Files.readString(Path.of("src/main/java/ImageYard.java"));
        for (String word : NOT_IN_THE_SOURCE) {
            check.holds("the source is without " + word, !source.contains(word));
        }
        for (String line : source.split("\n")) {
            check.holds("known import: " + line, !line.startsWith("import")
                    || line.equals("import java.util.NoSuchElementException;"));
            check.holds("signs of ASCII alone: " + line, line.chars().allMatch(sign -> sign >= 32 && sign < 127));
        }
    }
}

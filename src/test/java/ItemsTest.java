import java.lang.reflect.Constructor;
import java.lang.reflect.Field;
import java.lang.reflect.Method;
import java.nio.charset.StandardCharsets;

/**
 * "Bytes that aren't items, one behind the other up to the end (kinds, paths; no file of more than 1000 bytes),
 * change nothing when they are applied." No run of calls comes to most of these bytes, for a yard has only layers and
 * images that builds wrote; so this test looks inside the class, where they are applied. How the class is made inside
 * is free: if it has no such classes the test says so and has nothing to look at.
 */
public final class ItemsTest {
    private final Constructor<?> rows;
    private final Constructor<?> trees;
    private final Object changes;
    private final Method apply;

    private ItemsTest() throws ReflectiveOperationException {
        rows = constructor("Row", int.class);
        trees = constructor("Tree");
        changes = constructor("Changes").newInstance();
        apply = changes.getClass().getDeclaredMethod("apply", Class.forName("ImageYard$Row"), int.class, int.class,
                Class.forName("ImageYard$Tree"));
        apply.setAccessible(true);
    }

    public static void main(String[] args) throws ReflectiveOperationException {
        ItemsTest test;
        try {
            test = new ItemsTest();
        } catch (ClassNotFoundException | NoSuchMethodException e) {
            System.out.println("the class is made in another way: " + e.getMessage());
            return;
        }
        Check check = new Check();
        test.kinds(check);
        test.paths(check);
        test.lengths(check);
        test.cut(check);
        test.oneBehindTheOther(check);
        check.end();
    }

    private static Constructor<?> constructor(String name, Class<?>... types) throws ReflectiveOperationException {
        Constructor<?> found = Class.forName("ImageYard$" + name).getDeclaredConstructor(types);
        found.setAccessible(true);
        return found;
    }

    private static Object field(Object of, String name) throws ReflectiveOperationException {
        Field field = of.getClass().getDeclaredField(name);
        field.setAccessible(true);
        return field.get(of);
    }

    private Object row(String bytes) throws ReflectiveOperationException {
        Object row = rows.newInstance(5000);
        Method add = row.getClass().getDeclaredMethod("add", int.class);
        add.setAccessible(true);
        for (char b : bytes.toCharArray()) {
            add.invoke(row, (int) b);
        }
        return row;
    }

    /** The tree that comes of applying bytes to one that has the directory k and the file l in it. */
    private String applied(String bytes) throws ReflectiveOperationException {
        Object tree = trees.newInstance();
        String start = "\1\1k\0\0\2\3k/l\1\0001";
        apply.invoke(changes, row(start), 0, start.length(), tree);
        apply.invoke(changes, row("ahead" + bytes + "\3\1k\0\0"), 5, bytes.length(), tree);
        StringBuilder out = new StringBuilder();
        Object[] entries = (Object[]) field(tree, "entries");
        for (int i = 0; i < (int) field(tree, "count"); i++) {
            byte[] path = (byte[]) field(entries[i], "path");
            out.append(i == 0 ? "" : " ");
            out.append(new String(path, 0, (int) field(entries[i], "length"), StandardCharsets.ISO_8859_1));
            out.append((int) field(entries[i], "kind") == 1 ? "/" : "=" + field(entries[i], "bytes"));
        }
        return out.toString();
    }

    private void due(Check check, String bytes, String tree) throws ReflectiveOperationException {
        String got = applied(bytes);
        check.holds("the tree is " + tree + " (it is " + got + ")", got.equals(tree));
    }

    private void nothing(Check check, String bytes) throws ReflectiveOperationException {
        due(check, bytes, "k/ k/l=1");
        due(check, "\1\1m\0\0" + bytes, "k/ k/l=1");
        due(check, bytes + "\1\1m\0\0", "k/ k/l=1");
    }

    private void kinds(Check check) throws ReflectiveOperationException {
        due(check, "\1\1a\0\0", "a/ k/ k/l=1");
        due(check, "\2\1a\0\0", "a=0 k/ k/l=1");
        due(check, "\3\1k\0\0", "");
        due(check, "\4\1k\0\0", "k/");
        int[] wrong = {0, 5, 77, 128, 255};
        for (int kind : wrong) {
            nothing(check, (char) kind + "\1a\0\0");
        }
    }

    private void paths(Check check) throws ReflectiveOperationException {
        due(check, "\1\10abcdefgh\0\0", "abcdefgh/ k/ k/l=1");
        due(check, "\2\12k/12345678\0\0", "k/ k/12345678=0 k/l=1");
        String[] wrong = {"", "A", "/", "a/", "/a", "a//b", "abcdefghi", "k/123456789", "a/b/c/d/e", "a b", "a\0"};
        for (String path : wrong) {
            for (char kind = 1; kind < 5; kind++) {
                nothing(check, kind + "" + (char) path.length() + path + "\0\0");
            }
        }
    }

    /** "no file of more than 1000 bytes", "(0 for others)" */
    private void lengths(Check check) throws ReflectiveOperationException {
        due(check, "\2\1a\350\3" + "x".repeat(1000), "a=1000 k/ k/l=1");
        nothing(check, "\2\1a\351\3" + "x".repeat(1001));
        nothing(check, "\2\1a\0\4" + "x".repeat(1024));
        due(check, "\2\1a\350\3" + "x".repeat(1000) + "\2\1b\350\3" + "x".repeat(1000), "a=1000 b=1000 k/ k/l=1");
        char[] others = {1, 3, 4};
        for (char kind : others) {
            nothing(check, kind + "\1k\1\0x");
            nothing(check, kind + "\1k\0\1" + "x".repeat(256));
        }
    }

    /** "up to the end": a row that is cut anywhere but between items. */
    private void cut(Check check) throws ReflectiveOperationException {
        String items = "\2\1a\3\0xyz\1\1b\0\0\2\3b/c\0\0\3\1k\0\0";
        String[] trees = {"k/ k/l=1", "a=3 k/ k/l=1", "a=3 b/ k/ k/l=1", "a=3 b/ b/c=0 k/ k/l=1", "a=3 b/ b/c=0"};
        int[] ends = {0, 8, 13, 20, 25};
        for (int length = 0; length <= items.length(); length++) {
            String due = trees[0];
            for (int i = 0; i < ends.length; i++) {
                due = ends[i] == length ? trees[i] : due;
            }
            due(check, items.substring(0, length), due);
        }
    }

    private void oneBehindTheOther(Check check) throws ReflectiveOperationException {
        due(check, "", "k/ k/l=1");
        due(check, "\1\1a\0\0\1\3a/b\0\0", "a/ a/b/ k/ k/l=1");
        due(check, "\1\3a/b\0\0\1\1a\0\0", "a/ k/ k/l=1");
        due(check, "\1\1a\0\0\3\1a\0\0\2\1a\1\0x", "a=1 k/ k/l=1");
        nothing(check, "\0");
        nothing(check, "\1");
    }
}

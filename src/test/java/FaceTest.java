import java.io.IOException;
import java.lang.reflect.Constructor;
import java.lang.reflect.Field;
import java.lang.reflect.Method;
import java.lang.reflect.Modifier;
import java.nio.file.Files;
import java.nio.file.Path;
import java.util.ArrayList;
import java.util.Arrays;
import java.util.Collections;
import java.util.List;
import java.util.TreeSet;

/** The public face: every constant, constructor and method of the document, and no other. */
public final class FaceTest {
    private static final String[] FACE = {
        "public static final int NONE",
        "public PointedWords()",
        "public int add(int, long)",
        "public boolean change(int, int, long)",
        "public boolean cut(int, int)",
        "public int words(int)",
        "public long word(int, int)",
        "public boolean budget(int)",
        "public int open() throws IndexOutOfBoundsException, NoSuchElementException,"
                + " IllegalArgumentException, IllegalStateException",
        "public int left()",
        "public int go(int, int) throws NoSuchElementException, UnsupportedOperationException,"
                + " IndexOutOfBoundsException, IllegalStateException, IllegalArgumentException",
        "public int element(int, int) throws NoSuchElementException,"
                + " UnsupportedOperationException, IndexOutOfBoundsException,"
                + " IllegalStateException",
        "public int about(int, int) throws NoSuchElementException, IndexOutOfBoundsException",
        "public long data(int, int) throws NoSuchElementException,"
                + " UnsupportedOperationException, IndexOutOfBoundsException",
        "public int form() throws IndexOutOfBoundsException, NoSuchElementException,"
                + " IllegalArgumentException, IllegalStateException",
        "public long formed(int)",
        "public boolean adopt()",
        "public boolean keep()",
        "public boolean same()",
    };

    private static final Path DOCUMENT = Path.of("../shared/DOC.md");

    public static void main(String[] args) throws IOException {
        if (Files.exists(DOCUMENT)) {
            Checks.due("the face, as the document writes it", String.join("; ", FACE),
                    String.join("; ", documentFace()));
        }
        Class<?> c = PointedWords.class;
        List<String> members = new ArrayList<>();
        for (Field f : c.getDeclaredFields()) {
            if (!Modifier.isPrivate(f.getModifiers())) {
                members.add(Modifier.toString(f.getModifiers()) + " " + f.getType() + " "
                        + f.getName());
            }
        }
        for (Constructor<?> k : c.getDeclaredConstructors()) {
            members.add(Modifier.toString(k.getModifiers()) + " PointedWords("
                    + names(k.getParameterTypes()) + ")" + thrown(k.getExceptionTypes()));
        }
        TreeSet<String> publicNames = new TreeSet<>();
        TreeSet<String> privateNames = new TreeSet<>();
        for (Method m : c.getDeclaredMethods()) {
            if (Modifier.isPrivate(m.getModifiers()) || m.isSynthetic()) {
                privateNames.add(m.getName());
                continue;
            }
            publicNames.add(m.getName());
            members.add(Modifier.toString(m.getModifiers()) + " " + m.getReturnType() + " "
                    + m.getName() + "(" + names(m.getParameterTypes()) + ")"
                    + thrown(m.getExceptionTypes()));
        }
        List<String> face = new ArrayList<>(Arrays.asList(FACE));
        Collections.sort(face);
        Collections.sort(members);
        Checks.due("the face", String.join("; ", face), String.join("; ", members));
        Checks.due("public and final", "public final", Modifier.toString(c.getModifiers()));
        for (Class<?> inside : c.getDeclaredClasses()) {
            Checks.due(inside + " is static", true, Modifier.isStatic(inside.getModifiers()));
            for (Method m : inside.getDeclaredMethods()) {
                privateNames.add(m.getName());
            }
        }
        privateNames.retainAll(publicNames);
        Checks.due("other methods that bear a public name", "[]", privateNames.toString());
        Checks.due("NONE", -1, () -> PointedWords.NONE);
        Checks.end();
    }

    /** The lines of the document's class, without the names of parameters and NONE's value. */
    private static List<String> documentFace() throws IOException {
        List<String> face = new ArrayList<>();
        for (String line : Files.readAllLines(DOCUMENT)) {
            if (line.startsWith("    public ")) {
                String plain = line.strip().replace(" = -1", "").replace(";", "");
                face.add(plain.replaceAll("(int|long) \\w+([,)])", "$1$2"));
            }
        }
        return face;
    }

    private static String names(Class<?>[] types) {
        List<String> names = new ArrayList<>();
        for (Class<?> type : types) {
            names.add(type.getSimpleName());
        }
        return String.join(", ", names);
    }

    private static String thrown(Class<?>[] types) {
        return types.length == 0 ? "" : " throws " + names(types);
    }
}

import java.io.IOException;
import java.lang.reflect.Field;
import java.lang.reflect.Method;
import java.lang.reflect.Modifier;
import java.nio.file.Files;
import java.nio.file.Path;
import java.util.ArrayList;
import java.util.List;
import java.util.Set;
import java.util.TreeSet;
import java.util.regex.Matcher;
import java.util.regex.Pattern;

/** The class has the document's face and no other, and keeps to what a text search can tell. */
public final class FaceTest {
    private static final Set<String> METHODS = Set.of(
            "public boolean VersionedBlock.put(int,long)",
            "public long VersionedBlock.get(int)",
            "public int VersionedBlock.begin()",
            "public int VersionedBlock.transaction()",
            "public int VersionedBlock.instruction(int,int,long)",
            "public int VersionedBlock.weave(long)",
            "public int VersionedBlock.unweave()",
            "public int VersionedBlock.execute()",
            "public int VersionedBlock.count()",
            "public int VersionedBlock.told(int,int)",
            "public long VersionedBlock.result(int)");
    private static final Set<String> FIELDS = Set.of(
            "public static final int VersionedBlock.BAD",
            "public static final int VersionedBlock.NO",
            "public static final int VersionedBlock.FULL");
    private static final Pattern FORBIDDEN = Pattern.compile(
            "\\b(throw|throws|try|catch|synchronized|assert|package|\\w+Exact|Random|Thread|System\\.out)\\b"
            + "|->|::|\\bnew \\w+\\(\\) *\\{");

    public static void main(String[] args) throws IOException {
        Path file = Path.of(args[0], "src", "main", "java", "VersionedBlock.java");
        String text = Files.readString(file);
        Check.sentence("public final class VersionedBlock", FaceTest::theClassItself);
        Check.sentence("its methods, and no others", FaceTest::methods);
        Check.sentence("its constants, and no others", FaceTest::fields);
        Check.sentence("classes inside are static", FaceTest::insideClasses);
        Check.sentence("at most seven parameters, some twelve classes, some twenty fields", FaceTest::staysSmall);
        Check.sentence("static fields are final constants of numbers", FaceTest::noStaticState);
        Check.sentence("what a text search can tell of LANGUAGE.md", () -> keepsTo(text));
        Check.end();
    }

    private static void theClassItself() {
        int modifiers = VersionedBlock.class.getModifiers();
        Check.due("public final", modifiers, Modifier.PUBLIC | Modifier.FINAL);
        Check.due("constructors", VersionedBlock.class.getDeclaredConstructors().length, 1);
        Check.due("no package", VersionedBlock.class.getPackageName().isEmpty(), true);
    }

    private static void methods() {
        Set<String> open = new TreeSet<>();
        Set<String> openNames = new TreeSet<>();
        for (Method method : VersionedBlock.class.getDeclaredMethods()) {
            if (!Modifier.isPrivate(method.getModifiers())) {
                open.add(method.toString());
                openNames.add(method.getName());
            }
        }
        Check.due("the methods are the document's: " + open, open.equals(METHODS), true);
        for (Method method : VersionedBlock.class.getDeclaredMethods()) {
            boolean isPrivate = Modifier.isPrivate(method.getModifiers());
            Check.due("a private namesake: " + method,
                    isPrivate && openNames.contains(method.getName()), false);
        }
    }

    private static void fields() {
        Set<String> open = new TreeSet<>();
        for (Field field : VersionedBlock.class.getDeclaredFields()) {
            if (!Modifier.isPrivate(field.getModifiers())) {
                open.add(field.toString());
            }
        }
        Check.due("the constants are the document's: " + open, open.equals(FIELDS), true);
    }

    private static void insideClasses() {
        for (Class<?> inside : VersionedBlock.class.getDeclaredClasses()) {
            int modifiers = inside.getModifiers();
            Check.due("static: " + inside, Modifier.isStatic(modifiers), true);
            Check.due("open: " + inside,
                    Modifier.isPublic(modifiers) || Modifier.isProtected(modifiers), false);
        }
    }

    private static List<Class<?>> allClasses() {
        List<Class<?>> all = new ArrayList<>(List.of(VersionedBlock.class.getDeclaredClasses()));
        all.add(VersionedBlock.class);
        return all;
    }

    private static void staysSmall() {
        Check.due("at most twelve classes", allClasses().size() <= 12, true);
        for (Class<?> one : allClasses()) {
            int fields = 0;
            for (Field field : one.getDeclaredFields()) {
                fields += Modifier.isStatic(field.getModifiers()) ? 0 : 1;
            }
            Check.due("at most twenty fields: " + one, fields <= 20, true);
            for (Method method : one.getDeclaredMethods()) {
                Check.due("at most seven parameters: " + method, method.getParameterCount() <= 7, true);
            }
        }
    }

    private static void noStaticState() {
        for (Class<?> one : allClasses()) {
            for (Field field : one.getDeclaredFields()) {
                int modifiers = field.getModifiers();
                if (Modifier.isStatic(modifiers)) {
                    Check.due("a final number: " + field,
                            Modifier.isFinal(modifiers) && field.getType().isPrimitive(), true);
                }
            }
        }
    }

    private static void keepsTo(String text) {
        String code = text.replaceAll("(?s)/\\*.*?\\*/", "").replaceAll("//.*", "");
        Check.due("one class of the document", code.contains("public final class VersionedBlock"), true);
        Matcher found = FORBIDDEN.matcher(code);
        while (found.find()) {
            Check.due("forbidden: " + found.group(), 1, 0);
        }
        Matcher imports = Pattern.compile("import ([^;]*);").matcher(code);
        while (imports.find()) {
            Check.due("import " + imports.group(1), imports.group(1).equals("java.util.Arrays"), true);
        }
    }
}

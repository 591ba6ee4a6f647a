import java.io.IOException;
import java.lang.reflect.Constructor;
import java.lang.reflect.Field;
import java.lang.reflect.Method;
import java.lang.reflect.Modifier;
import java.nio.file.Files;
import java.nio.file.Path;
import java.util.Arrays;
import java.util.Set;
import java.util.TreeSet;
import java.util.regex.Matcher;
import java.util.regex.Pattern;

/** The face is the document's, and the file keeps to what of LANGUAGE.md can be seen in its words. */
public final class LanguageRuns {
    private static final Path SOURCE = Path.of("src/main/java/StandStill.java");

    private static Set<String> faceOfDocument() throws IOException {
        Path document = Path.of(System.getProperty("shared", "../shared"), "DOC.md");
        String text = Files.readString(document);
        int from = text.indexOf("public final class StandStill {");
        Matcher line = Pattern.compile("public (\\w+) (\\w+)\\((.*?)\\);").matcher(
            text.substring(from, text.indexOf("```", from)));
        Set<String> face = new TreeSet<>();
        while (line.find()) {
            face.add(line.group(1) + " " + line.group(2) + "(" + line.group(3).replaceAll(" \\w+(,|$)", "$1") + ")");
        }
        return face;
    }

    private static Set<String> faceOfClass() {
        Set<String> face = new TreeSet<>();
        for (Method method : StandStill.class.getDeclaredMethods()) {
            if (Modifier.isPublic(method.getModifiers())) {
                String[] types = Arrays.stream(method.getParameterTypes()).map(Class::getName).toArray(String[]::new);
                face.add(method.getReturnType() + " " + method.getName() + "(" + String.join(", ", types) + ")");
            }
        }
        return face;
    }

    private static void face() throws IOException {
        Set<String> due = faceOfDocument();
        Due.due("calls of the face", due.size(), 38);
        Due.holds("the face is the document's: " + faceOfClass(), faceOfClass().equals(due));
        Due.holds("the class is final", Modifier.isFinal(StandStill.class.getModifiers()));
        Constructor<?>[] made = StandStill.class.getDeclaredConstructors();
        Due.holds("one constructor, public", made.length == 1 && Modifier.isPublic(made[0].getModifiers())
            && made[0].getParameterCount() == 0);
        Set<String> names = new TreeSet<>();
        due.forEach(line -> names.add(line.substring(line.indexOf(' ') + 1, line.indexOf('('))));
        membersOf(StandStill.class, names);
        Due.holds("some twelve classes", StandStill.class.getDeclaredClasses().length + 1 <= 12);
        for (Class<?> inside : StandStill.class.getDeclaredClasses()) {
            Due.holds(inside + " is static", Modifier.isStatic(inside.getModifiers()));
            Due.holds(inside + " holds no class", inside.getDeclaredClasses().length == 0);
            membersOf(inside, names);
        }
    }

    private static void membersOf(Class<?> one, Set<String> face) {
        boolean outer = one == StandStill.class;
        int fields = 0;
        for (Field field : one.getDeclaredFields()) {
            int is = field.getModifiers();
            fields += Modifier.isStatic(is) ? 0 : 1;
            Due.holds(field + " is a constant or of an object", !Modifier.isStatic(is) || Modifier.isFinal(is));
            Due.holds(field + " isn't seen", !outer || Modifier.isPrivate(is));
        }
        Due.holds(one + " has some twenty fields", fields <= 20);
        for (Method method : one.getDeclaredMethods()) {
            int is = method.getModifiers();
            Due.holds(method + " takes at most seven", method.getParameterCount() <= 7);
            Due.holds(method + " isn't seen", !outer || Modifier.isPrivate(is) || Modifier.isPublic(is));
            boolean ofFace = outer && Modifier.isPublic(is);
            Due.holds(method + " has a name of its own", ofFace || !face.contains(method.getName()));
        }
    }

    /** The source without comments and constants, so that only its code is left. */
    private static String code() throws IOException {
        return Files.readString(SOURCE).replaceAll("(?s)/\\*.*?\\*/", "").replaceAll("//[^\n]*", "")
            .replaceAll("'.'", "0");
    }

    private static void words() throws IOException {
        String code = code();
        String[] barred = {
            "throw", "try", "catch", "synchronized", "assert", "package", "import", "->", "::", "float", "double",
            "Exact", "\"", "@", "System\\.(?!arraycopy)", "Object", "null", "new Thread", "hashCode", "toString"};
        for (String word : barred) {
            Due.holds("no " + word, !Pattern.compile(word.matches("[a-z]+") ? "\\b" + word + "\\b" : word)
                .matcher(code).find());
        }
        for (char sign : Files.readString(SOURCE).toCharArray()) {
            Due.holds("a plain sign: " + (int) sign, sign < 127 && (sign >= ' ' || sign == '\n'));
        }
        Matcher called = Pattern.compile("\\b([A-Z][a-z]\\w*)\\.(\\w+)").matcher(code);
        Set<String> library = Set.of("Math.max", "Math.min", "Math.abs", "Integer.bitCount", "System.arraycopy");
        while (called.find()) {
            Due.holds("the library has " + called.group(), library.contains(called.group()));
        }
    }

    private static void lengths() throws IOException {
        int start = 0;
        int number = 0;
        for (String line : Files.readAllLines(SOURCE)) {
            number++;
            Due.holds("line " + number + " is at most 120 signs long", line.length() <= 120);
            if (line.matches(" {4,8}[\\w\\[\\]. ]+\\(.*\\) \\{")) {
                start = number;
            }
            if (line.matches(" {4,8}\\}")) {
                Due.holds("the method that ends in line " + number + " is short", start == 0 || number - start < 60);
                start = 0;
            }
        }
    }

    public static void main(String[] args) throws IOException {
        face();
        words();
        lengths();
        Due.end("LanguageRuns");
    }
}

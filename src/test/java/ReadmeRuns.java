import java.io.IOException;
import java.lang.reflect.Method;
import java.nio.file.Files;
import java.nio.file.Path;
import java.util.Set;
import java.util.TreeSet;
import java.util.regex.Matcher;
import java.util.regex.Pattern;

/** What README.md says that calls answer, and that it names every call of the face. */
public final class ReadmeRuns {
    private static final Pattern SAID = Pattern.compile("(?m)^row\\.(\\w+)\\((.*?)\\); +// (-?\\d+): ");

    private static Method call(String name) {
        for (Method method : StandStill.class.getDeclaredMethods()) {
            if (method.getName().equals(name)) {
                return method;
            }
        }
        throw new IllegalArgumentException("README.md has a call that the class has not: " + name);
    }

    private static Object[] numbers(Method call, String told) {
        Class<?>[] types = call.getParameterTypes();
        String[] parts = told.isEmpty() ? new String[0] : told.split(", ");
        Object[] numbers = new Object[parts.length];
        for (int i = 0; i < parts.length; i++) {
            long number = Long.decode(parts[i].replace("L", ""));
            if (types[i] == long.class) {
                numbers[i] = number;
            } else {
                numbers[i] = Math.toIntExact(number);
            }
        }
        return numbers;
    }

    private static void answers(String page) throws ReflectiveOperationException {
        StandStill row = new StandStill();
        Matcher said = SAID.matcher(page);
        int lines = 0;
        while (said.find()) {
            lines++;
            Method call = call(said.group(1));
            Number got = (Number) call.invoke(row, numbers(call, said.group(2)));
            Due.due(said.group(), got.longValue(), Long.parseLong(said.group(3)));
        }
        Due.due("lines of README.md that were asked", lines, page.split("(?m)^row\\.", -1).length - 1);
        Due.holds("README.md has such lines", lines > 0);
    }

    private static void names(String page) {
        Set<String> names = new TreeSet<>();
        for (Method method : StandStill.class.getMethods()) {
            if (method.getDeclaringClass() == StandStill.class) {
                names.add(method.getName());
            }
        }
        for (String name : names) {
            Due.holds("README.md names " + name, page.contains("`" + name + "`"));
        }
        for (Path test : tests()) {
            String name = test.getFileName().toString().replace(".java", "");
            Due.holds("README.md names " + name, page.contains("`" + name + "`"));
        }
    }

    private static Set<Path> tests() {
        Set<Path> tests = new TreeSet<>();
        try (var found = Files.newDirectoryStream(Path.of("src/test/java"), "*Runs.java")) {
            found.forEach(tests::add);
        } catch (IOException missing) {
            Due.holds("the tests are in src/test/java", false);
        }
        return tests;
    }

    public static void main(String[] args) throws IOException, ReflectiveOperationException {
        String page = Files.readString(Path.of("README.md"));
        answers(page);
        names(page);
        Due.end("ReadmeRuns");
    }
}

import java.io.IOException;
import java.lang.reflect.Method;
import java.lang.reflect.Modifier;
import java.nio.file.Files;
import java.nio.file.Path;
import java.util.ArrayList;
import java.util.List;
import java.util.regex.Matcher;
import java.util.regex.Pattern;

/** README.md: the calls that it shows answer as it tells, and it names each call of the class. */
public final class ReadmeTests {
    private static final Cases CASES = new Cases();
    private static final Pattern SHOWN = Pattern.compile("x\\.(\\w+)\\((.*)\\); *// (true|false|-?\\d+)\\b.*");

    private ReadmeTests() {
    }

    /** The rows of Java that the page shows. */
    private static List<String> shown(List<String> page) {
        List<String> rows = new ArrayList<>();
        boolean isJava = false;
        for (String row : page) {
            if (row.startsWith("```")) {
                isJava = row.equals("```java");
            } else if (isJava) {
                rows.add(row);
            }
        }
        return rows;
    }

    private static long number(String told) {
        return told.equals("true") ? 1 : told.equals("false") ? 0 : Long.decode(told);
    }

    private static long answer(GatesOnBoard x, String name, String arguments) throws ReflectiveOperationException {
        String[] told = arguments.isEmpty() ? new String[0] : arguments.split(", ");
        Object[] values = new Object[told.length];
        for (int i = 0; i < told.length; i++) {
            values[i] = (int) number(told[i]);
        }
        for (Method method : GatesOnBoard.class.getDeclaredMethods()) {
            if (Modifier.isPublic(method.getModifiers()) && method.getName().equals(name)) {
                return number(method.invoke(x, values).toString());
            }
        }
        throw new NoSuchMethodException(name);
    }

    private static void examples(List<String> rows) throws ReflectiveOperationException {
        GatesOnBoard x = new GatesOnBoard();
        int many = 0;
        for (String row : rows) {
            if (row.startsWith("GatesOnBoard x = new GatesOnBoard();")) {
                x = new GatesOnBoard();
            } else if (row.startsWith("x.")) {
                CASES.begin("README: " + row);
                Matcher call = SHOWN.matcher(row);
                boolean isTold = call.matches();
                CASES.due("an answer is told", isTold, true);
                if (isTold) {
                    CASES.due("it", answer(x, call.group(1), call.group(2)), number(call.group(3)));
                    many++;
                }
            }
        }
        CASES.is("README: it shows calls", many > 0, true);
    }

    /** What it shows for texts is what all tests type with. */
    private static void helpers(List<String> rows) throws IOException {
        List<String> used = new ArrayList<>();
        for (String row : Files.readAllLines(Path.of("src/test/java/Cases.java"))) {
            used.add(row.strip());
        }
        for (String row : rows) {
            if (!row.startsWith("x.") && !row.startsWith("GatesOnBoard x")) {
                CASES.is("README: in use: " + row, used.contains(row.strip()), true);
            }
        }
    }

    private static void names(String page) {
        for (Method method : GatesOnBoard.class.getDeclaredMethods()) {
            if (Modifier.isPublic(method.getModifiers())) {
                CASES.is("README: names " + method.getName(), page.contains("`" + method.getName() + "("), true);
            }
        }
    }

    private static void programs(String page) throws IOException {
        try (var files = Files.list(Path.of("src/test/java"))) {
            for (Path file : files.sorted().toList()) {
                String name = file.getFileName().toString();
                if (name.endsWith("Tests.java")) {
                    boolean isNamed = page.contains("/" + name) || name.endsWith("EdgeTests.java")
                        && page.contains("`" + name.replace("EdgeTests.java", "") + "`:");
                    CASES.is("README: names " + name, isNamed, true);
                }
            }
        }
    }

    public static void main(String[] args) throws IOException, ReflectiveOperationException {
        Path path = Path.of("README.md");
        List<String> rows = shown(Files.readAllLines(path));
        String page = Files.readString(path);
        examples(rows);
        helpers(rows);
        names(page);
        programs(page);
        CASES.end();
    }
}

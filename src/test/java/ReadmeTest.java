import java.io.IOException;
import java.lang.reflect.Method;
import java.lang.reflect.Modifier;
import java.nio.file.Files;
import java.nio.file.Path;
import java.util.List;
import java.util.Set;
import java.util.TreeSet;
import java.util.regex.Matcher;
import java.util.regex.Pattern;
import java.util.stream.Stream;

/** README.md says of the class and of the tests what they are: its examples are run, its lists compared. */
public final class ReadmeTest {
    private static final Pattern EXAMPLE = Pattern.compile("x\\.(\\w+)\\(([^)]*)\\); *// (-?\\d+)(:.*)?");
    private static final Pattern ROW = Pattern.compile("\\| `(\\w+)\\(([^)]*)\\)` \\|.*");
    private static final Pattern CONSTANT = Pattern.compile("- `FloorCurves\\.(\\w+)` \\((-?\\d+)\\).*");
    private static final Pattern TEST = Pattern.compile("`(\\w+Test)`");

    public static void main(String[] args) throws IOException, ReflectiveOperationException {
        Due due = new Due("ReadmeTest");
        List<String> lines = Files.readAllLines(Path.of("README.md"));
        runExamples(lines, due);
        compareTable(lines, due);
        compareConstants(lines, due);
        compareTests(lines, due);
        due.close();
    }

    private static void runExamples(List<String> lines, Due due) {
        FloorCurves x = null;
        int objects = 0;
        boolean isCode = false;
        for (String line : lines) {
            isCode = line.startsWith("```") ? line.equals("```java") : isCode;
            Matcher call = EXAMPLE.matcher(line);
            if (line.equals("FloorCurves x = new FloorCurves();")) {
                x = new FloorCurves();
                objects++;
            } else if (call.matches()) {
                due.is("README: " + line, Call.of(call.group(1), numbersOf(call.group(2))).on(x), Long.parseLong(call.group(3)));
            } else if (isCode && !line.isEmpty() && !line.startsWith("```")) {
                due.is("README has a line that is no example: " + line, 1, 0);
            }
        }
        due.is("README's objects", objects, 2);
    }

    private static long[] numbersOf(String told) {
        return Stream.of(told.split(", *")).filter(word -> !word.isEmpty())
            .mapToLong(word -> Long.decode(word.replace("L", ""))).toArray();
    }

    /** Each call of the face has a row, with as many numbers as it takes. */
    private static void compareTable(List<String> lines, Due due) {
        Set<String> told = new TreeSet<>();
        for (String line : lines) {
            Matcher row = ROW.matcher(line);
            if (row.matches()) {
                String[] names = row.group(2).isEmpty() ? new String[0] : row.group(2).split(", ");
                due.is("README has two rows of " + row.group(1), told.add(row.group(1) + " " + names.length) ? 1 : 0, 1);
            }
        }
        Set<String> face = new TreeSet<>();
        for (Method method : FloorCurves.class.getDeclaredMethods()) {
            if (Modifier.isPublic(method.getModifiers())) {
                face.add(method.getName() + " " + method.getParameterCount());
            }
        }
        due.same("reading README's table", List.copyOf(told), List.copyOf(face));
    }

    private static void compareConstants(List<String> lines, Due due) throws ReflectiveOperationException {
        int found = 0;
        for (String line : lines) {
            Matcher constant = CONSTANT.matcher(line);
            if (constant.matches()) {
                found++;
                due.is(line, Integer.parseInt(constant.group(2)), FloorCurves.class.getField(constant.group(1)).getInt(null));
            }
        }
        due.is("README's constants", found, 4);
    }

    /** Each test of the project is named, and no other. */
    private static void compareTests(List<String> lines, Due due) throws IOException {
        Set<String> told = new TreeSet<>();
        Matcher names = TEST.matcher(String.join("\n", lines));
        while (names.find()) {
            told.add(names.group(1));
        }
        Set<String> there = new TreeSet<>();
        try (Stream<Path> files = Files.list(Path.of("src/test/java"))) {
            files.map(file -> file.getFileName().toString()).filter(name -> name.endsWith("Test.java"))
                .forEach(name -> there.add(name.replace(".java", "")));
        }
        due.same("reading README's tests", List.copyOf(told), List.copyOf(there));
    }
}

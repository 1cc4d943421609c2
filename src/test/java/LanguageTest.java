import java.io.IOException;
import java.lang.reflect.Executable;
import java.lang.reflect.Field;
import java.lang.reflect.Modifier;
import java.nio.file.Files;
import java.nio.file.Path;
import java.util.ArrayList;
import java.util.List;
import java.util.Set;
import java.util.regex.Matcher;
import java.util.regex.Pattern;

/** The rules of LANGUAGE.md that can be seen in the compiled class or in the words of its file. */
public final class LanguageTest {
    private static final Set<Class<?>> CONSTANTS = Set.of(int.class, long.class, boolean.class, char.class, String.class,
        int[].class, long[].class, char[].class, byte[].class);
    private static final Set<String> LIBRARY = Set.of("Arrays.fill", "System.arraycopy", "Math.min", "Math.max", "Math.abs");
    private static final Pattern FORBIDDEN = Pattern.compile("\\b(throw|throws|try|catch|finally|synchronized|assert|double|float"
        + "|volatile|transient|native|var|package|equals|hashCode|toString|Object|Random|Thread|currentTimeMillis|nanoTime)\\b"
        + "|->|::|Exact|@");
    private static final Pattern STATIC_CALL = Pattern.compile("\\b([A-Z]\\w*)\\.(\\w+)\\(");
    private static final Pattern METHOD = Pattern.compile("( {4}| {8})[A-Za-z].*\\) \\{");
    private static final int MOST_CLASSES = 12, MOST_FIELDS = 20, MOST_PARAMETERS = 7, MOST_LINES = 60;

    private final Due due;
    private final List<Class<?>> classes = List.of(FloorCurves.class.getNestMembers());
    private final List<String> lines = new ArrayList<>();

    private LanguageTest(Due due) throws IOException {
        this.due = due;
        for (String line : Files.readAllLines(Path.of("src/main/java/FloorCurves.java"))) {
            lines.add(line.replaceAll("//.*|^ */\\*\\*.*", ""));
        }
    }

    public static void main(String[] args) throws IOException {
        Due due = new Due("LanguageTest");
        LanguageTest test = new LanguageTest(due);
        test.classesInside();
        test.fields();
        test.parameters();
        test.words();
        test.library();
        test.lengths();
        due.close();
    }

    /** Rules 1, 2 and 11: classes inside are static and not public, some twelve at most. */
    private void classesInside() {
        due.is("rule 11: at most " + MOST_CLASSES + " classes", classes.size() <= MOST_CLASSES ? 1 : 0, 1);
        for (Class<?> owner : classes) {
            if (owner != FloorCurves.class) {
                due.is("rule 2: static " + owner, Modifier.isStatic(owner.getModifiers()) ? 1 : 0, 1);
                due.is("rule 1: hidden " + owner, owner.getModifiers() & (Modifier.PUBLIC | Modifier.PROTECTED), 0);
                due.is("rule 2: a member " + owner, owner.isMemberClass() ? 1 : 0, 1);
            }
        }
    }

    /** Rules 5 and 11: what is static is final and a constant; some twenty other fields at most. */
    private void fields() {
        for (Class<?> owner : classes) {
            int own = 0;
            for (Field field : owner.getDeclaredFields()) {
                if (Modifier.isStatic(field.getModifiers())) {
                    due.is("rule 5: final " + field, Modifier.isFinal(field.getModifiers()) ? 1 : 0, 1);
                    due.is("rule 5: a constant " + field, CONSTANTS.contains(field.getType()) ? 1 : 0, 1);
                } else {
                    own++;
                }
            }
            due.is("rule 11: at most " + MOST_FIELDS + " fields of " + owner, own <= MOST_FIELDS ? 1 : 0, 1);
        }
    }

    private void parameters() {
        for (Class<?> owner : classes) {
            List<Executable> all = new ArrayList<>(List.of(owner.getDeclaredMethods()));
            all.addAll(List.of(owner.getDeclaredConstructors()));
            for (Executable one : all) {
                due.is("rule 11: parameters of " + one, one.getParameterCount() <= MOST_PARAMETERS ? 1 : 0, 1);
            }
        }
    }

    /** Rules 3, 6 and 13: words that have no place in the class. */
    private void words() {
        for (int i = 0; i < lines.size(); i++) {
            due.is("line " + (i + 1) + ": " + lines.get(i), FORBIDDEN.matcher(lines.get(i)).find() ? 1 : 0, 0);
        }
    }

    /** Rule 4: no import but Arrays, no static call but of own classes and of these few. */
    private void library() {
        for (int i = 0; i < lines.size(); i++) {
            String line = lines.get(i);
            due.is("rule 4, line " + (i + 1) + ": " + line, line.startsWith("import ") && !line.equals("import java.util.Arrays;") ? 1 : 0, 0);
            Matcher call = STATIC_CALL.matcher(line);
            while (call.find()) {
                boolean isKnown = isOwn(call.group(1)) || LIBRARY.contains(call.group(1) + "." + call.group(2));
                due.is("rule 4, line " + (i + 1) + ": " + call.group(), isKnown ? 1 : 0, 1);
            }
        }
    }

    private boolean isOwn(String name) {
        for (Class<?> owner : classes) {
            if (owner.getSimpleName().equals(name)) {
                return true;
            }
        }
        return false;
    }

    /** Rule 11: a method has some sixty lines at most. */
    private void lengths() {
        int methods = 0;
        for (int i = 0; i < lines.size(); i++) {
            Matcher start = METHOD.matcher(lines.get(i));
            if (start.matches()) {
                methods++;
                due.is("rule 11: lines from " + (i + 1), lengthFrom(i, start.group(1) + "}") <= MOST_LINES ? 1 : 0, 1);
            }
        }
        due.is("rule 11: methods were found", methods > FloorCurves.class.getDeclaredMethods().length ? 1 : 0, 1);
    }

    private int lengthFrom(int first, String last) {
        int i = first;
        while (i < lines.size() && !lines.get(i).equals(last)) {
            i++;
        }
        return i - first + 1;
    }
}

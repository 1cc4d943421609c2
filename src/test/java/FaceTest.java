import java.lang.reflect.Constructor;
import java.lang.reflect.Field;
import java.lang.reflect.Method;
import java.lang.reflect.Modifier;
import java.util.Set;
import java.util.TreeSet;

/** The public face is the document's, and nothing else can be seen from outside (rule 1 of LANGUAGE.md). */
public final class FaceTest {
    private static final String[] FACE = {
        "int picture(int)", "int stair(int,int,int,int)", "int cut(int,int,int,int)", "int drop()",
        "int about(int,int)", "int told(int,int,int)", "int out(int,int)", "long spread(int,int)",
        "long markings(int)", "long between(int,int,int)", "int unlike(int,int)", "int turned(int)",
        "long count(int,int)", "long signed(int,int)", "long spreadAll(int,int,int)", "int listed(int,int)",
        "int take(int,int,int)", "int place(int)", "int feed(long)", "int end(int)", "int text()",
        "int fault()", "long tangent(int)", "int has(int,int)", "long rational(int)",
        "int sheet(int,int,int)", "int lay(int,int,int)", "int draw(int,int,int,int,int)", "int many(int)"};

    public static void main(String[] args) {
        Due due = new Due("FaceTest");
        Class<?> face = FloorCurves.class;
        due.is("public final", face.getModifiers(), Modifier.PUBLIC | Modifier.FINAL);
        due.is("methods missing or too many", differing(Set.of(FACE), visibleMethods(face)), 0);
        int constants = 0;
        for (Field field : face.getDeclaredFields()) {
            if (!Modifier.isPrivate(field.getModifiers())) {
                constants++;
                due.is(field.getName(), field.getModifiers(), Modifier.PUBLIC | Modifier.STATIC | Modifier.FINAL);
            }
        }
        due.is("constants", constants, 4);
        due.is("BAD", FloorCurves.BAD, -1);
        due.is("STATE", FloorCurves.STATE, -2);
        due.is("FULL", FloorCurves.FULL, -3);
        due.is("NONE", FloorCurves.NONE, -4);
        Constructor<?>[] constructors = face.getDeclaredConstructors();
        due.is("constructors", constructors.length, 1);
        due.is("its modifiers", constructors[0].getModifiers(), Modifier.PUBLIC);
        due.is("its parameters", constructors[0].getParameterCount(), 0);
        due.is("private methods with a public name", sameNames(face), 0);
        due.close();
    }

    private static int sameNames(Class<?> face) {
        Set<String> names = new TreeSet<>();
        for (String method : FACE) {
            names.add(method.substring(method.indexOf(' ') + 1, method.indexOf('(')));
        }
        int count = 0;
        for (Class<?> owner : face.getNestMembers()) {
            for (Method method : owner.getDeclaredMethods()) {
                if (names.contains(method.getName()) && !Modifier.isPublic(method.getModifiers())) {
                    count++;
                    System.out.println("has a public name: " + method);
                }
            }
        }
        return count;
    }

    private static Set<String> visibleMethods(Class<?> face) {
        Set<String> seen = new TreeSet<>();
        for (Method method : face.getDeclaredMethods()) {
            if (!Modifier.isPrivate(method.getModifiers()) && !method.isSynthetic()) {
                StringBuilder told = new StringBuilder();
                for (Class<?> type : method.getParameterTypes()) {
                    told.append(told.length() == 0 ? "" : ",").append(type.getSimpleName());
                }
                seen.add(method.getReturnType().getSimpleName() + " " + method.getName() + "(" + told + ")");
            }
        }
        return seen;
    }

    private static int differing(Set<String> one, Set<String> other) {
        Set<String> all = new TreeSet<>(one);
        all.addAll(other);
        int count = 0;
        for (String name : all) {
            if (!one.contains(name) || !other.contains(name)) {
                count++;
                System.out.println("in one face only: " + name);
            }
        }
        return count;
    }
}

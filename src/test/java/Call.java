import java.lang.reflect.Method;
import java.util.Arrays;
import java.util.HashMap;
import java.util.List;
import java.util.Map;

/** One call told by its name and numbers: so that a run of calls is told once, and made on the class and on the model. */
final class Call {
    private static final Map<String, Method> KNOWN = new HashMap<>();

    private final String name;
    private final long[] numbers;

    private Call(String name, long... numbers) {
        this.name = name;
        this.numbers = numbers;
    }

    static Call of(String name, long... numbers) {
        return new Call(name, numbers);
    }

    /** The target that has been called so. */
    static <T> T run(T target, List<Call> calls) {
        for (Call call : calls) {
            call.on(target);
        }
        return target;
    }

    long on(Object target) {
        try {
            Method method = methodOf(target.getClass());
            Object[] given = new Object[numbers.length];
            for (int i = 0; i < given.length; i++) {
                if (method.getParameterTypes()[i] == int.class) {
                    given[i] = Math.toIntExact(numbers[i]);
                } else {
                    given[i] = numbers[i];
                }
            }
            return ((Number) method.invoke(target, given)).longValue();
        } catch (ReflectiveOperationException e) {
            throw new IllegalStateException(this + " can not be called, or threw", e);
        }
    }

    private Method methodOf(Class<?> owner) {
        return KNOWN.computeIfAbsent(owner.getName() + "." + name + "/" + numbers.length, key -> search(owner));
    }

    private Method search(Class<?> owner) {
        for (Method method : owner.getDeclaredMethods()) {
            if (method.getName().equals(name) && method.getParameterCount() == numbers.length) {
                return method;
            }
        }
        throw new IllegalStateException(owner + " has no " + this);
    }

    @Override
    public String toString() {
        String told = Arrays.toString(numbers);
        return name + "(" + told.substring(1, told.length() - 1) + ")";
    }
}

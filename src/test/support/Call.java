import java.lang.reflect.Method;
import java.util.Arrays;

/** A call by its name, so that two objects can be asked the same. */
final class Call {
    final String name;
    final Object[] with;

    Call(String name, Object... with) {
        this.name = name;
        this.with = with;
    }

    long ask(Object whom) {
        for (Method method : whom.getClass().getDeclaredMethods()) {
            if (method.getName().equals(name) && method.getParameterCount() == with.length) {
                try {
                    method.setAccessible(true);
                    return ((Number) method.invoke(whom, with)).longValue();
                } catch (ReflectiveOperationException e) {
                    System.out.println(this + " threw " + e.getCause());
                    return Long.MIN_VALUE;
                }
            }
        }
        throw new IllegalStateException("no " + this);
    }

    @Override
    public String toString() {
        String row = Arrays.toString(with);
        return name + "(" + row.substring(1, row.length() - 1) + ")";
    }
}

import java.lang.reflect.InvocationTargetException;
import java.lang.reflect.Method;
import java.util.ArrayList;
import java.util.List;

/** A method of the face with its arguments, to be called on a GainTables or on a Model. */
record Call(String name, int... arguments) {
    static final List<Method> FACE = methods(GainTables.class);
    private static final List<Method> MODEL = methods(Model.class);

    private static List<Method> methods(Class<?> owner) {
        List<Method> methods = new ArrayList<>();
        for (Method m : owner.getDeclaredMethods()) {
            if (!java.lang.reflect.Modifier.isPrivate(m.getModifiers()) && !m.isSynthetic()) {
                methods.add(m);
            }
        }
        methods.sort(java.util.Comparator.comparing(Method::getName));
        return methods;
    }

    int on(Object target) {
        List<Method> methods = target instanceof GainTables ? FACE : MODEL;
        for (Method m : methods) {
            if (m.getName().equals(name) && m.getParameterCount() == arguments.length) {
                Object[] boxed = new Object[arguments.length];
                for (int i = 0; i < boxed.length; i++) {
                    boxed[i] = arguments[i];
                }
                try {
                    return (Integer) m.invoke(target, boxed);
                } catch (InvocationTargetException thrown) {
                    throw new IllegalStateException(this + " threw " + thrown.getCause(),
                            thrown.getCause());
                } catch (IllegalAccessException denied) {
                    throw new IllegalStateException(denied);
                }
            }
        }
        throw new IllegalStateException("there is no " + name);
    }

    @Override
    public String toString() {
        StringBuilder s = new StringBuilder(name).append('(');
        for (int i = 0; i < arguments.length; i++) {
            s.append(i == 0 ? "" : ", ").append(arguments[i]);
        }
        return s.append(')').toString();
    }
}

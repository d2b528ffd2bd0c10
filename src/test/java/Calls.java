import java.lang.reflect.InvocationTargetException;
import java.lang.reflect.Method;

/** Calls of the face by their names, of the class as well as of SecondOpinion. */
final class Calls {
    private Calls() {
    }

    /** What a call answers, or throws. who: a ThirteenthDay or a SecondOpinion; a boolean is told by 0 and 1. */
    static String answer(Object who, String call, int... arguments) {
        Method method = methodOf(who.getClass(), call);
        Class<?>[] types = method.getParameterTypes();
        Object[] given = new Object[arguments.length];
        for (int k = 0; k < given.length; k++) {
            given[k] = types[k] == boolean.class ? (Object) (arguments[k] != 0) : (Object) arguments[k];
        }
        try {
            return String.valueOf(method.invoke(who, given));
        } catch (InvocationTargetException e) {
            return "throws." + e.getCause().getClass().getName();
        } catch (IllegalAccessException e) {
            throw new IllegalStateException(call + " can not be called");
        }
    }

    private static Method methodOf(Class<?> kind, String call) {
        for (Method method : ThirteenthDay.class.getMethods()) {
            if (method.getName().equals(call)) {
                try {
                    return kind.getDeclaredMethod(call, method.getParameterTypes());
                } catch (NoSuchMethodException e) {
                    throw new IllegalStateException(kind + " has no " + call);
                }
            }
        }
        throw new IllegalStateException("there is no " + call);
    }

    /** A call and its arguments as a text has them: "pass 8". */
    static String name(String text) {
        return text.split(" ")[0];
    }

    static int[] arguments(String text) {
        String[] words = text.split(" ");
        int[] arguments = new int[words.length - 1];
        for (int k = 0; k < arguments.length; k++) {
            arguments[k] = Integer.parseInt(words[k + 1]);
        }
        return arguments;
    }
}

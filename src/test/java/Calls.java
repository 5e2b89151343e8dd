import java.lang.reflect.InvocationTargetException;
import java.lang.reflect.Method;
import java.lang.reflect.Modifier;
import java.util.HashMap;
import java.util.Map;

/** A new object that is called by texts such as "asks(0, 1, 2, 30)"; its answers are texts too. */
final class Calls {
    /** The document promises nothing about an object behind so many calls. */
    private static final int MOST = 512;
    private static final Map<String, Method> FACE = new HashMap<>();

    static {
        for (Method method : CardRights.class.getDeclaredMethods()) {
            if (Modifier.isPublic(method.getModifiers())) {
                FACE.put(method.getName(), method);
            }
        }
    }

    private final CardRights object = new CardRights();
    private int done = 0;

    /** What the call answers, or throws. and the name of what it throws. */
    String call(String text) {
        done++;
        if (done > MOST) {
            throw new IllegalStateException("the test calls an object too often: " + text);
        }
        Method method = FACE.get(text.substring(0, text.indexOf('(')));
        try {
            return String.valueOf(method.invoke(object, argumentsOf(text)));
        } catch (InvocationTargetException thrown) {
            return "throws." + thrown.getCause().getClass().getSimpleName();
        } catch (IllegalAccessException hidden) {
            throw new IllegalStateException(hidden);
        }
    }

    static boolean isThrown(String answer) {
        return answer.startsWith("throws.");
    }

    int done() {
        return done;
    }

    static Object[] argumentsOf(String text) {
        String inner = text.substring(text.indexOf('(') + 1, text.lastIndexOf(')')).trim();
        if (inner.isEmpty()) {
            return new Object[0];
        }
        String[] parts = inner.split(", ");
        Object[] arguments = new Object[parts.length];
        for (int i = 0; i < parts.length; i++) {
            arguments[i] = argument(parts[i]);
        }
        return arguments;
    }

    private static Object argument(String part) {
        switch (part) {
            case "true":
            case "false":
                return Boolean.valueOf(part);
            case "MIN":
                return Integer.MIN_VALUE;
            case "MAX":
                return Integer.MAX_VALUE;
            case "LAST":
                return 1000000;
            default:
                return Integer.valueOf(part);
        }
    }
}

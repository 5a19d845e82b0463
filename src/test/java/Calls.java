import java.lang.reflect.InvocationTargetException;
import java.lang.reflect.Method;
import java.util.HashMap;
import java.util.Map;

/** Calls of the face, written as a text, such as "packet(0, 1, 6)", so that a test tells just what it asks. */
final class Calls {
    private static final Map<String, Method> FACE = new HashMap<>();

    static {
        for (Method m : SharedSurplus.class.getMethods()) {
            if (m.getDeclaringClass() == SharedSurplus.class) {
                FACE.put(m.getName(), m);
            }
        }
    }

    private Calls() {
    }

    /** The answer; a boolean counts 1 or 0. */
    static int ask(SharedSurplus x, String call) {
        int open = call.indexOf('(');
        Method asked = FACE.get(call.substring(0, open));
        String inside = call.substring(open + 1, call.length() - 1);
        String[] written = inside.isEmpty() ? new String[0] : inside.split(", ");
        Object[] arguments = new Object[written.length];
        for (int i = 0; i < written.length; i++) {
            boolean flag = asked.getParameterTypes()[i] == boolean.class;
            arguments[i] = flag ? (Object) Boolean.valueOf(written[i]) : (Object) Integer.valueOf(written[i]);
        }
        try {
            Object answer = asked.invoke(x, arguments);
            return answer instanceof Boolean ? (Boolean) answer ? 1 : 0 : (Integer) answer;
        } catch (InvocationTargetException e) {
            throw new IllegalStateException(call + " threw", e.getCause());
        } catch (IllegalAccessException e) {
            throw new IllegalStateException(call, e);
        }
    }

    /** What a call answers that is refused: false counts 0. */
    static int refusal(String call) {
        return call.startsWith("turn(") ? 0 : SharedSurplus.NONE;
    }

    static SharedSurplus all(SharedSurplus x, String... calls) {
        for (String call : calls) {
            ask(x, call);
        }
        return x;
    }

    /** The first call and the others, as one row of calls. */
    static String[] behind(String first, String... calls) {
        String[] all = new String[calls.length + 1];
        all[0] = first;
        System.arraycopy(calls, 0, all, 1, calls.length);
        return all;
    }
}

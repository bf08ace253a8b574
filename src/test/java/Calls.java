import java.lang.reflect.InvocationTargetException;
import java.lang.reflect.Method;
import java.lang.reflect.Modifier;
import java.util.HashMap;
import java.util.Map;

/** Calls that are told as a text: the name and its arguments, of which MIN and MAX are the least and the greatest int. */
final class Calls {
    private static final Map<String, Method> FACE = methodsOf(EveryMapWrong.class);
    private static final Map<String, Method> NAIVE = methodsOf(Naive.class);

    private Calls() {
    }

    private static Map<String, Method> methodsOf(Class<?> type) {
        Map<String, Method> methods = new HashMap<>();
        for (Method method : type.getDeclaredMethods()) {
            if (!Modifier.isPrivate(method.getModifiers())) {
                methods.put(method.getName(), method);
            }
        }
        return methods;
    }

    /** Beside the face's calls: "tape TEXT" feeds it, "read TEXT" reads it too, "law TEXT" makes it THE LAW, too. */
    static int on(EveryMapWrong x, String call) {
        return on(x, FACE, call);
    }

    static int on(Naive x, String call) {
        return on(x, NAIVE, call);
    }

    private static int on(Object x, Map<String, Method> methods, String call) {
        if (call.startsWith("tape ")) {
            return feed(x, methods, call.substring(5));
        }
        if (call.startsWith("read ")) {
            feed(x, methods, call.substring(5));
            return on(x, methods, "text");
        }
        if (call.startsWith("law ")) {
            int text = on(x, methods, "read " + call.substring(4));
            return text < 0 ? text : on(x, methods, "force " + text);
        }
        String[] words = call.split(" ");
        Method method = methods.get(words[0]);
        if (method == null || method.getParameterCount() != words.length - 1) {
            throw new IllegalStateException("there is no call " + call);
        }
        Object[] arguments = new Object[words.length - 1];
        for (int i = 0; i < arguments.length; i++) {
            arguments[i] = number(words[i + 1], method.getParameterTypes()[i]);
        }
        try {
            return (int) method.invoke(x, arguments);
        } catch (IllegalAccessException | InvocationTargetException e) {
            throw new IllegalStateException(call + " threw", e);
        }
    }

    /** Eight bytes at a time; answers what the last feed answered. */
    private static int feed(Object x, Map<String, Method> methods, String text) {
        int answer = 0;
        for (int from = 0; from < text.length(); from += 8) {
            int to = Math.min(text.length(), from + 8);
            long w = 0;
            for (int i = from; i < to; i++) {
                w = w << 8 | text.charAt(i) & 255;
            }
            answer = on(x, methods, "feed " + w + " " + (to - from));
        }
        return answer;
    }

    private static Object number(String word, Class<?> type) {
        long number = word.equals("MIN") ? Integer.MIN_VALUE : word.equals("MAX") ? Integer.MAX_VALUE : Long.decode(word);
        if (type == long.class) {
            return number;
        }
        if (number != (int) number) {
            throw new IllegalStateException(word + " is no int");
        }
        return (int) number;
    }
}

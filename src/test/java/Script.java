import java.lang.reflect.Method;
import java.lang.reflect.Modifier;
import java.util.ArrayList;
import java.util.Arrays;
import java.util.HashMap;
import java.util.List;
import java.util.Map;

/**
 * Plays calls that are told as texts: "setPoint 10 900"; "50x run 200" is fifty calls, and
 * "type 0 900;" appends each character of "0 900;".
 */
final class Script {
    private static final Map<Class<?>, Map<String, Method>> METHODS = new HashMap<>();
    private static final Map<String, List<Call>> PARSED = new HashMap<>();

    private record Call(String name, Object[] arguments) {
        int on(Object roaster) {
            Method method = METHODS.computeIfAbsent(roaster.getClass(), Script::methods).get(name);
            try {
                return (int) method.invoke(roaster, arguments);
            } catch (ReflectiveOperationException e) {
                throw new IllegalStateException(name + Arrays.toString(arguments), e);
            }
        }
    }

    private Script() {
    }

    private static Map<String, Method> methods(Class<?> roaster) {
        Map<String, Method> methods = new HashMap<>();
        for (Method method : roaster.getDeclaredMethods()) {
            if (!Modifier.isPrivate(method.getModifiers())) {
                methods.put(method.getName(), method);
            }
        }
        return methods;
    }

    /** The answer of the last one of the calls that this text tells, by a RoastKeeper or a Model. */
    static int play(Object roaster, String text) {
        int answer = 0;
        for (Call call : PARSED.computeIfAbsent(text, Script::parse)) {
            answer = call.on(roaster);
        }
        return answer;
    }

    /** A new roaster after these calls. */
    static RoastKeeper after(String... texts) {
        RoastKeeper keeper = new RoastKeeper();
        for (String text : texts) {
            play(keeper, text);
        }
        return keeper;
    }

    /** How many calls these texts tell. */
    static int length(String... texts) {
        int length = 0;
        for (String text : texts) {
            length += PARSED.computeIfAbsent(text, Script::parse).size();
        }
        return length;
    }

    static String[] join(String[] first, String... second) {
        String[] all = Arrays.copyOf(first, first.length + second.length);
        System.arraycopy(second, 0, all, first.length, second.length);
        return all;
    }

    private static List<Call> parse(String text) {
        List<Call> calls = new ArrayList<>();
        if (text.startsWith("type ")) {
            for (char character : text.substring(5).toCharArray()) {
                calls.add(new Call("append", new Object[] {(int) character}));
            }
            return calls;
        }
        String[] words = text.split(" ");
        boolean many = words[0].matches("\\d+x");
        int times = many ? Integer.parseInt(words[0].substring(0, words[0].length() - 1)) : 1;
        int name = many ? 1 : 0;
        Object[] arguments = new Object[words.length - name - 1];
        for (int n = 0; n < arguments.length; n++) {
            arguments[n] = Integer.parseInt(words[name + 1 + n]);
        }
        Method method = METHODS.computeIfAbsent(RoastKeeper.class, Script::methods).get(words[name]);
        if (method == null || method.getParameterCount() != arguments.length) {
            throw new IllegalStateException("no such call: " + text);
        }
        for (int n = 0; n < times; n++) {
            calls.add(new Call(words[name], arguments));
        }
        return calls;
    }
}

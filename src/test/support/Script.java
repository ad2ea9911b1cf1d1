import java.lang.reflect.InvocationTargetException;
import java.lang.reflect.Method;
import java.util.HashMap;
import java.util.Map;

/**
 * Plays rows such as "party(0, 2) = 0" or "close(9) = NUMBER" on a QuietStairs and prints every
 * call whose answer is not the one that is due.
 */
final class Script {
    private static final Map<String, Method> METHODS = new HashMap<>();
    private static final Map<String, Integer> NAMES = Map.of(
            "NUMBER", -1, "FULL", -2, "TWICE", -3, "STATE", -4, "NONE", -5,
            "MIN", Integer.MIN_VALUE, "MAX", Integer.MAX_VALUE);
    private static int wrong = 0;
    private static int played = 0;

    static {
        for (Method method : QuietStairs.class.getDeclaredMethods()) {
            if (java.lang.reflect.Modifier.isPublic(method.getModifiers())) {
                METHODS.put(method.getName(), method);
            }
        }
    }

    private final String title;
    private final QuietStairs stairs = new QuietStairs();

    Script(String title) {
        this.title = title;
    }

    Script play(String... rows) {
        for (String row : rows) {
            int at = row.lastIndexOf('=');
            String call = row.substring(0, at).trim();
            due(title, call, answer(call), number(row.substring(at + 1).trim()));
        }
        return this;
    }

    int answer(String call) {
        int at = call.indexOf('(');
        String inner = call.substring(at + 1, call.length() - 1).trim();
        String[] words = inner.isEmpty() ? new String[0] : inner.split("\\s*,\\s*");
        Object[] arguments = new Object[words.length];
        for (int i = 0; i < words.length; i++) {
            boolean isTruth = words[i].equals("true") || words[i].equals("false");
            arguments[i] = isTruth ? (Object) Boolean.valueOf(words[i]) : (Object) number(words[i]);
        }
        try {
            return (Integer) METHODS.get(call.substring(0, at)).invoke(stairs, arguments);
        } catch (IllegalAccessException | InvocationTargetException e) {
            throw new IllegalStateException(call, e);
        }
    }

    static void due(String title, String call, int got, int want) {
        played++;
        if (got != want) {
            wrong++;
            System.out.println(title + ": " + call + " answered " + got + ", due is " + want);
        }
    }

    static void fault(String text) {
        wrong++;
        System.out.println(text);
    }

    static void end() {
        if (wrong != 0) {
            System.out.println(wrong + " wrong");
            System.exit(1);
        }
        System.out.println(played + " answers are as due");
    }

    private static Integer number(String word) {
        Integer named = NAMES.get(word);
        return named != null ? named : Integer.valueOf(word);
    }
}

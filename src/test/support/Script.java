import java.lang.reflect.InvocationTargetException;
import java.lang.reflect.Method;
import java.lang.reflect.Modifier;
import java.util.HashMap;
import java.util.Map;

/**
 * Plays rows such as "party(0, 2) = 0" or "close(9) = NUMBER" on a QuietStairs and prints every
 * call whose answer is not the one that is due.
 */
final class Script {
    private static final int MOST_CALLS = 512;
    private static final Map<String, Method> METHODS = new HashMap<>();
    private static final Map<String, Call> CALLS = new HashMap<>();
    private static final Map<String, Integer> NAMES = Map.of(
            "NUMBER", -1, "FULL", -2, "TWICE", -3, "STATE", -4, "NONE", -5,
            "MIN", Integer.MIN_VALUE, "MAX", Integer.MAX_VALUE);
    private static int wrong = 0;
    private static int played = 0;

    static {
        for (Method method : QuietStairs.class.getDeclaredMethods()) {
            if (Modifier.isPublic(method.getModifiers())) {
                METHODS.put(method.getName(), method);
            }
        }
    }

    private record Call(Method method, Object[] arguments) {
    }

    private final String title;
    private final QuietStairs stairs = new QuietStairs();
    private int calls = 0;

    Script(String title) {
        this.title = title;
    }

    Script play(String... rows) {
        for (String row : rows) {
            int at = row.lastIndexOf('=');
            String call = row.substring(0, at).trim();
            due(title, call, answer(call), number(row.substring(at + 1).trim()));
        }
        return this;
    }

    int answer(String text) {
        calls++;
        if (calls == MOST_CALLS + 1) {
            fault(title + ": more than 512 calls, whose answers are free");
        }
        Call call = CALLS.computeIfAbsent(text, Script::read);
        try {
            return (Integer) call.method.invoke(stairs, call.arguments);
        } catch (IllegalAccessException | InvocationTargetException e) {
            throw new IllegalStateException(title + ": " + text, e);
        }
    }

    /** How many calls are left to this object. */
    int left() {
        return MOST_CALLS - calls;
    }

    private static Call read(String text) {
        int at = text.indexOf('(');
        String inner = text.substring(at + 1, text.length() - 1).trim();
        String[] words = inner.isEmpty() ? new String[0] : inner.split("\\s*,\\s*");
        Object[] arguments = new Object[words.length];
        for (int i = 0; i < words.length; i++) {
            boolean isTruth = words[i].equals("true") || words[i].equals("false");
            arguments[i] = isTruth ? (Object) Boolean.valueOf(words[i]) : (Object) number(words[i]);
        }
        return new Call(METHODS.get(text.substring(0, at)), arguments);
    }

    static void due(String title, String call, int got, int want) {
        played++;
        if (got != want) {
            wrong++;
            System.out.println(title + ": " + call + " answered " + got + ", due is " + want);
        }
    }

    static void fault(String text) {
        wrong++;
        System.out.println(text);
    }

    static void end() {
        if (wrong != 0) {
            System.out.println(wrong + " wrong");
            System.exit(1);
        }
        System.out.println(played + " answers are as due");
    }

    private static Integer number(String word) {
        Integer named = NAMES.get(word);
        return named != null ? named : Integer.valueOf(word);
    }
}

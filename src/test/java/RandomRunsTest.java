import java.lang.reflect.Method;
import java.lang.reflect.Modifier;
import java.util.ArrayList;
import java.util.Arrays;
import java.util.Comparator;
import java.util.HashMap;
import java.util.List;
import java.util.Map;
import java.util.Random;

/**
 * Runs of 512 calls at most, drawn with fixed seeds, played on QuietStairs and on PlainStairs: the
 * answers are the same, also those of the questions about everything at the end of a run.
 */
public final class RandomRunsTest {
    private static final int RUNS = 1500;
    private static final int MOST_CALLS = 512;
    private static final int[] STRANGE = {-1, -2, 24, 32, 33, 64, 101, -32,
        Integer.MIN_VALUE, Integer.MAX_VALUE, 1 << 16};
    private static final String[] CHANGES = {"party", "mediator", "kin", "open", "close", "weight",
        "mark", "offer", "offer", "offer", "rooms", "term", "term", "term", "strike", "log", "log",
        "log", "keep", "back"};
    private static final String[] QUESTIONS = {"of", "put", "learns", "maySit", "plan", "waits",
        "termOf", "hour", "canHold", "breaks", "judged", "many"};

    private static final Map<String, Method> METHODS = new HashMap<>();

    private final Random random;
    private final String title;
    private final QuietStairs quiet = new QuietStairs();
    private final PlainStairs plain = new PlainStairs();
    private int calls = 0;

    private RandomRunsTest(long seed) {
        random = new Random(seed);
        title = "random run " + seed;
    }

    public static void main(String[] args) throws Exception {
        for (int seed = 0; seed < RUNS; seed++) {
            new RandomRunsTest(seed).play();
        }
        Script.end();
    }

    private void play() throws Exception {
        start();
        int changes = 10 + random.nextInt(120);
        for (int i = 0; i < changes; i++) {
            String name = random.nextInt(3) > 0 ? pick(CHANGES) : pick(QUESTIONS);
            if (name.equals("close") && random.nextInt(3) > 0) {
                name = "weight";
            }
            both(name, drawn(name));
        }
        askEverything();
    }

    /** Most runs start with somebody there, or nearly all of their calls would be refused. */
    private void start() throws Exception {
        if (random.nextInt(20) == 0) {
            return;
        }
        int parties = 2 + random.nextInt(7);
        for (int i = 0; i < parties; i++) {
            both("party", random.nextInt(7), random.nextInt(3));
        }
        for (int i = random.nextInt(5); i > 0; i--) {
            both("mediator", random.nextInt(10), 1 + random.nextInt(7) | random.nextInt(8));
        }
        for (int i = random.nextInt(7); i > 0; i--) {
            both("open", random.nextInt(parties), random.nextInt(parties));
        }
        int cases = plain.many(2);
        for (int i = 0; i < cases; i++) {
            if (random.nextInt(3) == 0) {
                both("offer", i, 0, random.nextInt(60));
                both("offer", i, 1, 40 + random.nextInt(61));
            }
        }
    }

    private String pick(String[] names) {
        return names[random.nextInt(names.length)];
    }

    private Object[] drawn(String name) {
        Object[] arguments = switch (name) {
            case "party" -> row(10, 3);
            case "mediator" -> row(10, 8);
            case "kin" -> new Object[] {below(4), below(8), random.nextBoolean()};
            case "open" -> row(8, 8);
            case "close", "plan", "strike" -> row(6);
            case "weight" -> row(6, 10);
            case "mark" -> row(6, 6);
            case "of" -> row(6, 8);
            case "offer" -> row(6, 2, random.nextBoolean() ? 101 : 4);
            case "put", "canHold", "breaks" -> row(6, 2);
            case "learns" -> new Object[] {below(6), below(2), below(5), random.nextBoolean()};
            case "maySit" -> row(6, 6);
            case "rooms" -> row(3);
            case "term" -> termRow();
            case "termOf" -> row(6, 5, 5);
            case "hour", "judged" -> new Object[] {mostlySettled(), below(5)};
            case "log" -> row(6, 2, 24, 8);
            case "many" -> row(11);
            default -> new Object[0];
        };
        if (arguments.length > 0 && random.nextInt(25) == 0) {
            int at = random.nextInt(arguments.length);
            if (arguments[at] instanceof Integer) {
                arguments[at] = STRANGE[random.nextInt(STRANGE.length)];
            }
        }
        return arguments;
    }

    /** Hours that are near to each other, so that terms get into each other's way. */
    private Object[] termRow() {
        int a = random.nextInt(3) == 0 ? below(24) : 10 + below(4);
        int b = Math.min(23, a + below(random.nextInt(4) == 0 ? 24 : 4));
        return new Object[] {mostlySettled(), below(2), random.nextInt(3) > 0,
            below(random.nextBoolean() ? 2 : 6), a, random.nextInt(20) == 0 ? a - 1 : b};
    }

    private int mostlySettled() {
        for (int tries = 0; tries < 4; tries++) {
            int one = random.nextInt(6);
            if (plain.of(one, 2) == 1) {
                return one;
            }
        }
        return below(6);
    }

    private Object[] row(int... bounds) {
        Object[] row = new Object[bounds.length];
        for (int i = 0; i < bounds.length; i++) {
            row[i] = below(bounds[i]);
        }
        return row;
    }

    /** Now and then the bound itself, which is one too many. */
    private int below(int bound) {
        return random.nextInt(40) == 0 ? bound : random.nextInt(bound);
    }

    private void askEverything() throws Exception {
        List<Object[]> questions = new ArrayList<>();
        for (int what = 0; what < 11; what++) {
            questions.add(new Object[] {"many", what});
        }
        questions.add(new Object[] {"waits"});
        for (int one = 0; one < plain.many(2); one++) {
            askOfCase(questions, one);
        }
        while (calls + questions.size() > MOST_CALLS) {
            questions.remove(random.nextInt(questions.size()));
        }
        for (Object[] question : questions) {
            both((String) question[0], Arrays.copyOfRange(question, 1, question.length));
        }
    }

    private static void askOfCase(List<Object[]> questions, int one) {
        questions.add(new Object[] {"plan", one});
        for (int i = 0; i < 8; i++) {
            questions.add(new Object[] {"of", one, i});
        }
        for (int i = 0; i < 6; i++) {
            questions.add(new Object[] {"maySit", i, one});
        }
        for (int side = 0; side < 2; side++) {
            questions.add(new Object[] {"put", one, side});
            questions.add(new Object[] {"canHold", one, side});
            questions.add(new Object[] {"breaks", one, side});
            for (int round = 0; round < 5; round++) {
                questions.add(new Object[] {"learns", one, side, round, true});
                questions.add(new Object[] {"learns", one, side, round, false});
            }
            for (int hour = 0; hour < 24; hour++) {
                questions.add(new Object[] {"log", one, side, hour, 7});
            }
        }
        for (int term = 0; term < 5; term++) {
            questions.add(questions.size() / 2, new Object[] {"hour", one, term});
            questions.add(questions.size() / 2, new Object[] {"judged", one, term});
            for (int what = 0; what < 5; what++) {
                questions.add(new Object[] {"termOf", one, term, what});
            }
        }
    }

    private void both(String name, Object... arguments) throws Exception {
        calls++;
        int want = (Integer) method(PlainStairs.class, name).invoke(plain, arguments);
        int got = (Integer) method(QuietStairs.class, name).invoke(quiet, arguments);
        Script.due(title, calls + " " + name + Arrays.toString(arguments), got, want);
    }

    private static Method method(Class<?> owner, String name) {
        return METHODS.computeIfAbsent(owner.getName() + "." + name, key -> find(owner, name));
    }

    private static Method find(Class<?> owner, String name) {
        return Arrays.stream(owner.getDeclaredMethods())
                .filter(m -> m.getName().equals(name) && !Modifier.isPrivate(m.getModifiers()))
                .min(Comparator.comparing(Method::toString))
                .orElseThrow();
    }
}

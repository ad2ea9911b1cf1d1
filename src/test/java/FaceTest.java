import java.io.IOException;
import java.lang.reflect.Constructor;
import java.lang.reflect.Field;
import java.lang.reflect.Method;
import java.lang.reflect.Modifier;
import java.nio.file.Files;
import java.nio.file.Path;
import java.util.ArrayList;
import java.util.Arrays;
import java.util.List;
import java.util.Set;
import java.util.TreeSet;
import java.util.regex.Matcher;
import java.util.regex.Pattern;
import java.util.stream.Collectors;

/** The public face of the document, and the rules of LANGUAGE.md that can be seen from outside. */
public final class FaceTest {
    private static final String[] FACE = {
        "party(int,int)", "mediator(int,int)", "kin(int,int,boolean)", "open(int,int)", "close(int)",
        "weight(int,int)", "mark(int,int)", "of(int,int)", "offer(int,int,int)", "put(int,int)",
        "learns(int,int,int,boolean)", "maySit(int,int)", "rooms(int)", "plan(int)", "waits()",
        "term(int,int,boolean,int,int,int)", "strike(int)", "termOf(int,int,int)", "hour(int,int)",
        "canHold(int,int)", "breaks(int,int)", "log(int,int,int,int)", "judged(int,int)",
        "many(int)", "keep()", "back()"};
    private static final String FORBIDDEN = "throw|throws|try|catch|finally|synchronized|assert|volatile"
            + "|native|transient|import|package|extends|Object|Exception|Error|System\\.(?!arraycopy)\\w+"
            + "|Thread|Random|getClass|hashCode|toString|lambda|double|float|\\w+Exact";

    public static void main(String[] args) throws IOException {
        constants();
        methods();
        fields();
        classesInside();
        source();
        Script.end();
    }

    private static void constants() {
        Script.due("constants", "NUMBER", QuietStairs.NUMBER, -1);
        Script.due("constants", "FULL", QuietStairs.FULL, -2);
        Script.due("constants", "TWICE", QuietStairs.TWICE, -3);
        Script.due("constants", "STATE", QuietStairs.STATE, -4);
        Script.due("constants", "NONE", QuietStairs.NONE, -5);
    }

    private static void methods() {
        Set<String> open = new TreeSet<>();
        for (Method method : QuietStairs.class.getDeclaredMethods()) {
            if (Modifier.isPrivate(method.getModifiers())) {
                continue;
            }
            open.add(Arrays.stream(method.getParameterTypes()).map(Class::getName)
                    .collect(Collectors.joining(",", method.getName() + "(", ")")));
            expect(Modifier.isPublic(method.getModifiers()) && !Modifier.isStatic(method.getModifiers())
                    && method.getReturnType() == int.class, "modifiers or answer of " + method);
        }
        expect(open.equals(new TreeSet<>(List.of(FACE))), "the face has other methods: " + open);
        Constructor<?>[] makers = QuietStairs.class.getDeclaredConstructors();
        expect(makers.length == 1 && Modifier.isPublic(makers[0].getModifiers())
                && makers[0].getParameterCount() == 0, "one public constructor without parameters");
    }

    private static void fields() {
        int modifiers = QuietStairs.class.getModifiers();
        expect(Modifier.isPublic(modifiers) && Modifier.isFinal(modifiers), "public and final");
        List<String> open = new ArrayList<>();
        for (Field field : QuietStairs.class.getDeclaredFields()) {
            if (!Modifier.isPrivate(field.getModifiers())) {
                open.add(field.getName());
            }
        }
        expect(open.equals(List.of("NUMBER", "FULL", "TWICE", "STATE", "NONE")),
                "other fields can be seen: " + open);
    }

    private static void classesInside() {
        Set<String> face = Arrays.stream(FACE).map(row -> row.substring(0, row.indexOf('(')))
                .collect(Collectors.toSet());
        List<Class<?>> all = new ArrayList<>(List.of(QuietStairs.class.getDeclaredClasses()));
        for (Class<?> inside : all) {
            expect(Modifier.isStatic(inside.getModifiers()), inside + " is not static");
        }
        all.add(QuietStairs.class);
        expect(all.size() <= 12, "more than twelve classes");
        for (Class<?> one : all) {
            long fields = Arrays.stream(one.getDeclaredFields())
                    .filter(field -> !Modifier.isStatic(field.getModifiers())).count();
            expect(fields <= 20, one + " has " + fields + " fields");
            for (Field field : one.getDeclaredFields()) {
                expect(!Modifier.isStatic(field.getModifiers()) || Modifier.isFinal(field.getModifiers()),
                        field + " is static and not final");
            }
            for (Method method : one.getDeclaredMethods()) {
                expect(method.getParameterCount() <= 7, method + " takes more than seven parameters");
                expect(Modifier.isPublic(method.getModifiers()) || !face.contains(method.getName()),
                        method + " bears the name of a public one");
            }
        }
    }

    private static void source() throws IOException {
        String text = Files.readString(Path.of("src/main/java/QuietStairs.java"));
        expect(text.chars().allMatch(sign -> sign == '\n' || sign >= 32 && sign < 127), "strange signs");
        String code = text.replaceAll("(?s)/\\*.*?\\*/", "").replaceAll("//[^\n]*", "");
        Matcher word = Pattern.compile("(?<![\\w.])(" + FORBIDDEN + ")(?!\\w)").matcher(code);
        while (word.find()) {
            Script.fault("a word that LANGUAGE.md rules out: " + word.group());
        }
        expect(!code.contains("->") && !code.contains("::"), "no lambda, no method reference");
        expect(!code.contains("\""), "no text is needed");
        methodLengths(code);
    }

    private static void methodLengths(String code) {
        int length = 0;
        int depth = 0;
        for (String line : code.split("\n")) {
            boolean starts = line.matches(" +[^=;]*\\w+\\([^;=]*\\) \\{") && !line.matches(" +(if|for|while|switch|\\}).*");
            length = starts ? 0 : length + 1;
            depth = starts ? line.indexOf(line.trim()) : depth;
            if (line.equals(" ".repeat(depth) + "}")) {
                expect(length <= 60, "a method of more than sixty lines ends with " + length);
                length = 0;
            }
        }
    }

    private static void expect(boolean holds, String text) {
        Script.due("face", text, holds ? 1 : 0, 1);
    }
}

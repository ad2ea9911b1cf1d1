import java.lang.reflect.Constructor;
import java.lang.reflect.Field;
import java.lang.reflect.Method;
import java.lang.reflect.Modifier;
import java.util.ArrayList;
import java.util.Arrays;
import java.util.List;
import java.util.Set;
import java.util.TreeSet;
import java.util.stream.Collectors;

/** The public face of the document, and nothing beside it (LANGUAGE.md, rule 1). */
public final class FaceTest {
    private static final String[] FACE = {
        "party(int,int)", "mediator(int,int)", "kin(int,int,boolean)", "open(int,int)", "close(int)",
        "weight(int,int)", "mark(int,int)", "of(int,int)", "offer(int,int,int)", "put(int,int)",
        "learns(int,int,int,boolean)", "maySit(int,int)", "rooms(int)", "plan(int)", "waits()",
        "term(int,int,boolean,int,int,int)", "strike(int)", "termOf(int,int,int)", "hour(int,int)",
        "canHold(int,int)", "breaks(int,int)", "log(int,int,int,int)", "judged(int,int)",
        "many(int)", "keep()", "back()"};

    public static void main(String[] args) {
        constants();
        methods();
        fields();
        names();
        Script.end();
    }

    private static void constants() {
        Script.due("constants", "NUMBER", QuietStairs.NUMBER, -1);
        Script.due("constants", "FULL", QuietStairs.FULL, -2);
        Script.due("constants", "TWICE", QuietStairs.TWICE, -3);
        Script.due("constants", "STATE", QuietStairs.STATE, -4);
        Script.due("constants", "NONE", QuietStairs.NONE, -5);
    }

    private static void methods() {
        Set<String> open = new TreeSet<>();
        for (Method method : QuietStairs.class.getDeclaredMethods()) {
            if (Modifier.isPrivate(method.getModifiers())) {
                continue;
            }
            open.add(Arrays.stream(method.getParameterTypes()).map(Class::getName)
                    .collect(Collectors.joining(",", method.getName() + "(", ")")));
            expect(Modifier.isPublic(method.getModifiers()) && !Modifier.isStatic(method.getModifiers())
                    && method.getReturnType() == int.class, "modifiers or answer of " + method);
        }
        expect(open.equals(new TreeSet<>(List.of(FACE))), "the face has other methods: " + open);
        Constructor<?>[] makers = QuietStairs.class.getDeclaredConstructors();
        expect(makers.length == 1 && Modifier.isPublic(makers[0].getModifiers())
                && makers[0].getParameterCount() == 0, "one public constructor without parameters");
    }

    private static void fields() {
        int modifiers = QuietStairs.class.getModifiers();
        expect(Modifier.isPublic(modifiers) && Modifier.isFinal(modifiers), "public and final");
        List<String> open = new ArrayList<>();
        for (Field field : QuietStairs.class.getDeclaredFields()) {
            if (!Modifier.isPrivate(field.getModifiers())) {
                open.add(field.getName());
                expect(Modifier.toString(field.getModifiers()).equals("public static final")
                        && field.getType() == int.class, "modifiers or type of " + field);
            }
        }
        expect(open.equals(List.of("NUMBER", "FULL", "TWICE", "STATE", "NONE")),
                "other fields can be seen: " + open);
    }

    /** Rule 1: no private method bears the name of a public one; the classes inside count too. */
    private static void names() {
        Set<String> face = Arrays.stream(FACE).map(row -> row.substring(0, row.indexOf('(')))
                .collect(Collectors.toSet());
        List<Class<?>> all = new ArrayList<>(List.of(QuietStairs.class.getDeclaredClasses()));
        all.add(QuietStairs.class);
        for (Class<?> one : all) {
            for (Method method : one.getDeclaredMethods()) {
                expect(Modifier.isPublic(method.getModifiers()) || !face.contains(method.getName()),
                        method + " bears the name of a public one");
            }
        }
    }

    private static void expect(boolean holds, String text) {
        Script.due("face", text, holds ? 1 : 0, 1);
    }
}

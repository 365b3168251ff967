import static java.util.Map.entry;

import java.lang.reflect.Constructor;
import java.lang.reflect.Field;
import java.lang.reflect.Method;
import java.lang.reflect.Modifier;
import java.nio.file.Files;
import java.nio.file.Path;
import java.util.Arrays;
import java.util.Map;
import java.util.regex.Matcher;
import java.util.regex.Pattern;

/** The face of the class, and those rules of LANGUAGE.md that can be seen from outside. The source file is its argument. */
public final class LanguageTest {
    /** The calls of the face, each with how many numbers it takes. */
    private static final Map<String, Integer> FACE = Map.ofEntries(entry("write", 1), entry("wipe", 0), entry("fault", 0),
        entry("lay", 0), entry("child", 2), entry("woman", 2), entry("take", 2), entry("layOut", 1), entry("door", 1),
        entry("pass", 1), entry("undo", 0), entry("asTold", 1), entry("best", 1), entry("last", 0), entry("pays", 0),
        entry("women", 1), entry("seen", 3), entry("forget", 0), entry("kinds", 1), entry("takes", 2), entry("must", 3),
        entry("morning", 3), entry("keep", 0), entry("back", 0), entry("count", 1));
    private static final Map<String, Integer> CONSTANTS = Map.of("BAD", -1, "NO", -2, "FULL", -3, "NONE", -4);
    private static final Pattern REFUSED = Pattern.compile("\\b(import|package|throw|throws|try|catch|synchronized|assert"
        + "|hashCode|toString|double|float|protected)\\b|->|::|Exact\\b|static \\{");

    private static final Check CHECK = new Check();

    public static void main(String[] args) throws Exception {
        face();
        constants();
        inside();
        words(Files.readString(Path.of(args[0])));
        CHECK.end("LanguageTest");
    }

    private static void face() {
        CHECK.isTrue("public and final", Modifier.isPublic(SnowSuits.class.getModifiers())
            && Modifier.isFinal(SnowSuits.class.getModifiers()));
        int open = 0;
        for (Method method : SnowSuits.class.getDeclaredMethods()) {
            if (Modifier.isPrivate(method.getModifiers())) {
                CHECK.isTrue(method + " bears no name of the face", !FACE.containsKey(method.getName()));
            } else {
                open++;
                call(method);
            }
        }
        CHECK.due("calls that can be seen", open, FACE.size());
        Constructor<?>[] constructors = SnowSuits.class.getDeclaredConstructors();
        CHECK.due("constructors", constructors.length, 1);
        CHECK.isTrue("the constructor is public", Modifier.isPublic(constructors[0].getModifiers()));
        CHECK.due("what a constructor takes", constructors[0].getParameterCount(), 0);
    }

    private static void call(Method method) {
        int modifiers = method.getModifiers();
        CHECK.isTrue(method + " is public, of an object", Modifier.isPublic(modifiers) && !Modifier.isStatic(modifiers));
        CHECK.isTrue(method + " answers an int", method.getReturnType() == int.class);
        CHECK.due("how many " + method + " takes", method.getParameterCount(), FACE.getOrDefault(method.getName(), -1));
        for (Class<?> type : method.getParameterTypes()) {
            CHECK.isTrue(method + " takes ints", type == int.class);
        }
    }

    private static void constants() throws IllegalAccessException {
        int open = 0;
        for (Field field : SnowSuits.class.getDeclaredFields()) {
            if (!Modifier.isPrivate(field.getModifiers())) {
                open++;
                CHECK.due(field + " is public static final",
                    field.getModifiers(), Modifier.PUBLIC | Modifier.STATIC | Modifier.FINAL);
                CHECK.isTrue(field + " is an int", field.getType() == int.class);
                CHECK.due(field.getName(), field.getInt(null), CONSTANTS.getOrDefault(field.getName(), 0));
            }
        }
        CHECK.due("constants that can be seen", open, CONSTANTS.size());
    }

    private static void inside() {
        Class<?>[] classes = SnowSuits.class.getDeclaredClasses();
        CHECK.isTrue("at most twelve classes", classes.length < 12);
        for (Class<?> inner : classes) {
            CHECK.isTrue(inner + " is static", Modifier.isStatic(inner.getModifiers()));
            for (Method method : inner.getDeclaredMethods()) {
                CHECK.isTrue(method + " bears no name of the face", !FACE.containsKey(method.getName()));
                CHECK.isTrue(method + " takes at most seven", method.getParameterCount() <= 7);
            }
            long fields = Arrays.stream(inner.getDeclaredFields()).filter(f -> !Modifier.isStatic(f.getModifiers())).count();
            CHECK.isTrue(inner + " has at most twenty fields", fields <= 20);
            for (Field field : inner.getDeclaredFields()) {
                boolean changes = Modifier.isStatic(field.getModifiers()) && !Modifier.isFinal(field.getModifiers());
                CHECK.isTrue(field + " is no static state", !changes);
            }
        }
    }

    private static void words(String source) {
        String code = source.replaceAll("(?s)/\\*.*?\\*/", "").replaceAll("//[^\n]*", "");
        Matcher matcher = REFUSED.matcher(code);
        while (matcher.find()) {
            CHECK.isTrue("the source has no " + matcher.group(), false);
        }
        CHECK.isTrue("the source has signs 1 to 127 alone", source.chars().allMatch(c -> c >= 1 && c <= 127));
    }
}

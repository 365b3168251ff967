import java.lang.reflect.Constructor;
import java.lang.reflect.Field;
import java.lang.reflect.Method;
import java.lang.reflect.Modifier;
import java.nio.file.Files;
import java.nio.file.Path;
import java.util.Arrays;
import java.util.List;
import java.util.Set;
import java.util.TreeSet;
import java.util.regex.Matcher;
import java.util.regex.Pattern;

/** The face of the class, and those rules of LANGUAGE.md that can be seen from outside. The source file is its argument. */
public final class LanguageTest {
    private static final Set<String> FACE = new TreeSet<>(List.of("write", "wipe", "fault", "lay", "child", "woman", "take",
        "layOut", "door", "pass", "undo", "asTold", "best", "last", "pays", "women", "seen", "forget", "kinds", "takes",
        "must", "morning", "keep", "back", "count"));
    private static final Pattern REFUSED = Pattern.compile("\\b(import|package|throw|throws|try|catch|synchronized|assert"
        + "|hashCode|toString|double|float|protected)\\b|->|::|Exact\\b|static \\{");

    private static final Check CHECK = new Check();

    public static void main(String[] args) throws Exception {
        face();
        inside();
        words(Files.readString(Path.of(args[0])));
        CHECK.end("LanguageTest");
    }

    private static void face() {
        CHECK.isTrue("public and final", Modifier.isPublic(SnowSuits.class.getModifiers())
            && Modifier.isFinal(SnowSuits.class.getModifiers()));
        Set<String> found = new TreeSet<>();
        for (Method method : SnowSuits.class.getDeclaredMethods()) {
            if (!Modifier.isPrivate(method.getModifiers())) {
                found.add(method.getName());
                CHECK.isTrue(method + " answers an int", method.getReturnType() == int.class);
            }
        }
        CHECK.isTrue("methods " + found, found.equals(FACE));
        Constructor<?>[] constructors = SnowSuits.class.getDeclaredConstructors();
        CHECK.due("constructors", constructors.length, 1);
        CHECK.due("what a constructor takes", constructors[0].getParameterCount(), 0);
        Set<String> open = new TreeSet<>();
        for (Field field : SnowSuits.class.getDeclaredFields()) {
            if (!Modifier.isPrivate(field.getModifiers())) {
                open.add(field.getName());
            }
        }
        CHECK.isTrue("constants " + open, open.equals(new TreeSet<>(List.of("BAD", "NO", "FULL", "NONE"))));
    }

    private static void inside() {
        Class<?>[] classes = SnowSuits.class.getDeclaredClasses();
        CHECK.isTrue("at most twelve classes", classes.length < 12);
        for (Class<?> inner : classes) {
            CHECK.isTrue(inner + " is static", Modifier.isStatic(inner.getModifiers()));
            for (Method method : inner.getDeclaredMethods()) {
                CHECK.isTrue(method + " bears no name of the face", !FACE.contains(method.getName()));
                CHECK.isTrue(method + " takes at most seven", method.getParameterCount() <= 7);
            }
            long fields = Arrays.stream(inner.getDeclaredFields()).filter(f -> !Modifier.isStatic(f.getModifiers())).count();
            CHECK.isTrue(inner + " has at most twenty fields", fields <= 20);
            for (Field field : inner.getDeclaredFields()) {
                boolean changes = Modifier.isStatic(field.getModifiers()) && !Modifier.isFinal(field.getModifiers());
                CHECK.isTrue(field + " is no static state", !changes);
            }
        }
    }

    private static void words(String source) {
        String code = source.replaceAll("(?s)/\\*.*?\\*/", "").replaceAll("//[^\n]*", "");
        Matcher matcher = REFUSED.matcher(code);
        while (matcher.find()) {
            CHECK.isTrue("the source has no " + matcher.group(), false);
        }
        CHECK.isTrue("the source has signs 1 to 127 alone", source.chars().allMatch(c -> c >= 1 && c <= 127));
    }
}

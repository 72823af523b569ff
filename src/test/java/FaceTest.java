import java.io.IOException;
import java.lang.reflect.Field;
import java.lang.reflect.Method;
import java.lang.reflect.Modifier;
import java.nio.file.Files;
import java.nio.file.Path;
import java.util.Arrays;
import java.util.List;
import java.util.Set;
import java.util.TreeSet;
import java.util.regex.Matcher;
import java.util.regex.Pattern;

/** The face is the document's and no more, and the source keeps to what can be seen of LANGUAGE.md from its text. */
final class FaceTest {
    private static final List<String> METHODS = List.of(
        "back int int", "bestSwap int", "both int int int", "count int", "cross int int", "crossing int int", "cuts int",
        "falls int int", "fault", "felling int int", "ifSwapped int int", "join int int", "least int int", "load int",
        "ofRope int int", "pull int", "put long", "restore int", "save int", "swap int int", "turn int", "undo",
        "weave int int", "width int int", "winds int int", "wipe");
    private static final List<String> CONSTANTS = List.of("BAD_TEXT", "BAD_VALUE", "NONE", "NOT_POSSIBLE", "NO_SUCH", "TOO_MANY");
    private static final List<String> RULED_OUT = List.of(
        "\\bthrow\\b", "\\bthrows\\b", "\\btry\\b", "\\bcatch\\b", "\\bsynchronized\\b", "\\bassert\\b", "->", "::", "\\bimport\\b",
        "\\bpackage\\b", "\\bprotected\\b", "\\bObject\\b", "\\bvar\\b", "\\bvolatile\\b", "\\btransient\\b", "\\bnative\\b");

    private FaceTest() {
    }

    static void all(String source) throws IOException {
        constants();
        members();
        text(Files.readString(Path.of(source)));
    }

    private static void constants() {
        Checks.due("NO_SUCH", PostRopes.NO_SUCH, -1);
        Checks.due("BAD_VALUE", PostRopes.BAD_VALUE, -2);
        Checks.due("BAD_TEXT", PostRopes.BAD_TEXT, -3);
        Checks.due("TOO_MANY", PostRopes.TOO_MANY, -4);
        Checks.due("NOT_POSSIBLE", PostRopes.NOT_POSSIBLE, -5);
        Checks.due("NONE", PostRopes.NONE, -6);
    }

    private static void members() {
        Set<String> methods = new TreeSet<>();
        Set<String> names = new TreeSet<>();
        for (Method method : PostRopes.class.getDeclaredMethods()) {
            if (Modifier.isPrivate(method.getModifiers()) || method.isSynthetic()) continue;
            StringBuilder face = new StringBuilder(method.getName());
            Arrays.stream(method.getParameterTypes()).forEach(type -> face.append(' ').append(type.getName()));
            methods.add(face.toString());
            names.add(method.getName());
            Checks.holds(face + " is public, not static and answers an int",
                Modifier.isPublic(method.getModifiers()) && !Modifier.isStatic(method.getModifiers()) && method.getReturnType() == int.class);
        }
        Checks.due("the methods", String.join(", ", methods), String.join(", ", METHODS));
        for (Method method : PostRopes.class.getDeclaredMethods()) {
            Checks.holds("private " + method.getName() + " has a name of its own",
                !Modifier.isPrivate(method.getModifiers()) || !names.contains(method.getName()));
        }
        Set<String> constants = new TreeSet<>();
        for (Field field : PostRopes.class.getDeclaredFields()) {
            if (!Modifier.isPrivate(field.getModifiers()) && !field.isSynthetic()) constants.add(field.getName());
            Checks.holds(field.getName() + " is final if it is static",
                !Modifier.isStatic(field.getModifiers()) || Modifier.isFinal(field.getModifiers()));
        }
        Checks.due("the constants", String.join(", ", constants), String.join(", ", CONSTANTS));
        Checks.due("the constructors", PostRopes.class.getDeclaredConstructors().length, 1);
        Checks.holds("the class is public and final",
            Modifier.isPublic(PostRopes.class.getModifiers()) && Modifier.isFinal(PostRopes.class.getModifiers()));
        Checks.holds("few classes inside", PostRopes.class.getDeclaredClasses().length <= 11);
        for (Class<?> inside : PostRopes.class.getDeclaredClasses()) {
            Checks.holds(inside.getName() + " is static", Modifier.isStatic(inside.getModifiers()));
            Checks.holds(inside.getName() + " has few fields", inside.getDeclaredFields().length <= 20);
            for (Field field : inside.getDeclaredFields()) {
                Checks.holds(field.getName() + " is final if it is static",
                    !Modifier.isStatic(field.getModifiers()) || Modifier.isFinal(field.getModifiers()));
            }
        }
    }

    private static void text(String source) {
        String bare = source.replaceAll("(?s)/\\*.*?\\*/", "").replaceAll("//[^\n]*", "").replaceAll("'(\\\\.|[^\\\\])'", "0");
        for (String ruledOut : RULED_OUT) {
            Matcher matcher = Pattern.compile(ruledOut).matcher(bare);
            Checks.holds("no " + ruledOut + " in the source", !matcher.find());
        }
        Checks.holds("signs 1 to 127 alone in the source", source.chars().allMatch(c -> c >= 1 && c <= 127));
    }
}

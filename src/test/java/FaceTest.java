import java.io.IOException;
import java.lang.reflect.Field;
import java.lang.reflect.Method;
import java.lang.reflect.Modifier;
import java.nio.file.Files;
import java.nio.file.Path;
import java.util.ArrayList;
import java.util.Arrays;
import java.util.List;
import java.util.Set;
import java.util.TreeSet;
import java.util.regex.Matcher;
import java.util.regex.Pattern;

/** The face is the document's and no more, and the source keeps to what can be seen of LANGUAGE.md from its text. */
final class FaceTest {
    private static final List<String> METHODS = List.of(
        "back int int", "bestSwap int", "both int int int", "count int", "cross int int", "crossing int int", "cuts int",
        "falls int int", "fault", "felling int int", "ifSwapped int int", "join int int", "least int int", "load int",
        "ofRope int int", "pull int", "put long", "restore int", "save int", "swap int int", "turn int", "undo",
        "weave int int", "width int int", "winds int int", "wipe");
    private static final List<String> CONSTANTS = List.of("BAD_TEXT", "BAD_VALUE", "NONE", "NOT_POSSIBLE", "NO_SUCH", "TOO_MANY");
    /** The part of LANGUAGE.md's library that the program uses; a name that is added here has to stand there. */
    private static final Set<String> LIBRARY = Set.of("Math.max", "Math.min", "Math.floorMod", "Integer.bitCount");
    private static final int MOST_LINES = 60;
    private static final int MOST_PARAMETERS = 7;
    private static final int MOST_FIELDS = 20;
    private static final int MOST_CLASSES = 12;
    private static final List<String> RULED_OUT = List.of(
        "\\bthrow\\b", "\\bthrows\\b", "\\btry\\b", "\\bcatch\\b", "\\bsynchronized\\b", "\\bassert\\b", "->", "::", "\\bimport\\b",
        "\\bpackage\\b", "\\bprotected\\b", "\\bObject\\b", "\\bvar\\b", "\\bvolatile\\b", "\\btransient\\b", "\\bnative\\b");

    private FaceTest() {
    }

    static void all(String source) throws IOException {
        constants();
        members();
        sizes();
        String bare = bare(Files.readString(Path.of(source)));
        text(bare);
        library(bare);
        lines(bare);
    }

    private static void constants() {
        Checks.due("NO_SUCH", PostRopes.NO_SUCH, -1);
        Checks.due("BAD_VALUE", PostRopes.BAD_VALUE, -2);
        Checks.due("BAD_TEXT", PostRopes.BAD_TEXT, -3);
        Checks.due("TOO_MANY", PostRopes.TOO_MANY, -4);
        Checks.due("NOT_POSSIBLE", PostRopes.NOT_POSSIBLE, -5);
        Checks.due("NONE", PostRopes.NONE, -6);
    }

    private static void members() {
        Set<String> methods = new TreeSet<>();
        Set<String> names = new TreeSet<>();
        for (Method method : PostRopes.class.getDeclaredMethods()) {
            if (Modifier.isPrivate(method.getModifiers()) || method.isSynthetic()) continue;
            StringBuilder face = new StringBuilder(method.getName());
            Arrays.stream(method.getParameterTypes()).forEach(type -> face.append(' ').append(type.getName()));
            methods.add(face.toString());
            names.add(method.getName());
            Checks.holds(face + " is public, not static and answers an int",
                Modifier.isPublic(method.getModifiers()) && !Modifier.isStatic(method.getModifiers()) && method.getReturnType() == int.class);
        }
        Checks.due("the methods", String.join(", ", methods), String.join(", ", METHODS));
        for (Method method : PostRopes.class.getDeclaredMethods()) {
            Checks.holds("private " + method.getName() + " has a name of its own",
                !Modifier.isPrivate(method.getModifiers()) || !names.contains(method.getName()));
        }
        Set<String> constants = new TreeSet<>();
        for (Field field : PostRopes.class.getDeclaredFields()) {
            if (!Modifier.isPrivate(field.getModifiers()) && !field.isSynthetic()) constants.add(field.getName());
            Checks.holds(field.getName() + " is final if it is static",
                !Modifier.isStatic(field.getModifiers()) || Modifier.isFinal(field.getModifiers()));
        }
        Checks.due("the constants", String.join(", ", constants), String.join(", ", CONSTANTS));
        Checks.due("the constructors", PostRopes.class.getDeclaredConstructors().length, 1);
        Checks.holds("the class is public and final",
            Modifier.isPublic(PostRopes.class.getModifiers()) && Modifier.isFinal(PostRopes.class.getModifiers()));
        for (Class<?> inside : PostRopes.class.getDeclaredClasses()) {
            Checks.holds(inside.getName() + " is static", Modifier.isStatic(inside.getModifiers()));
            Checks.holds(inside.getName() + " is not public or protected",
                (inside.getModifiers() & (Modifier.PUBLIC | Modifier.PROTECTED)) == 0);
            for (Field field : inside.getDeclaredFields()) {
                Checks.holds(field.getName() + " is final if it is static",
                    !Modifier.isStatic(field.getModifiers()) || Modifier.isFinal(field.getModifiers()));
            }
        }
    }

    private static List<Class<?>> classes() {
        List<Class<?>> classes = new ArrayList<>(List.of(PostRopes.class.getDeclaredClasses()));
        classes.add(PostRopes.class);
        return classes;
    }

    /** Rule 11, but for the depth of calls. */
    private static void sizes() {
        Checks.holds("few classes", classes().size() <= MOST_CLASSES);
        for (Class<?> one : classes()) {
            long fields = Arrays.stream(one.getDeclaredFields()).filter(field -> !Modifier.isStatic(field.getModifiers())).count();
            Checks.holds(one.getName() + " has few fields beside its constants", fields <= MOST_FIELDS);
            for (Method method : one.getDeclaredMethods()) {
                Checks.holds(method.getName() + " takes few parameters", method.getParameterCount() <= MOST_PARAMETERS);
            }
        }
    }

    /** The source without comments, and with a 0 in the place of each character constant. */
    private static String bare(String source) {
        Checks.holds("signs 1 to 127 alone in the source", source.chars().allMatch(c -> c >= 1 && c <= 127));
        return source.replaceAll("(?s)/\\*.*?\\*/", "").replaceAll("//[^\n]*", "").replaceAll("'(\\\\.|[^\\\\])'", "0");
    }

    private static void text(String bare) {
        for (String ruledOut : RULED_OUT) {
            Matcher matcher = Pattern.compile(ruledOut).matcher(bare);
            Checks.holds("no " + ruledOut + " in the source", !matcher.find());
        }
    }

    /** Rule 4: a name with a small letter behind a capital one is one of the program's own classes, or stands in the library. */
    private static void library(String bare) {
        Set<String> own = new TreeSet<>();
        Matcher classes = Pattern.compile("\\bclass (\\w+)").matcher(bare);
        while (classes.find()) {
            own.add(classes.group(1));
        }
        Matcher names = Pattern.compile("\\b[A-Z]\\w*[a-z]\\w*(\\.\\w+)?").matcher(bare);
        while (names.find()) {
            String owner = names.group().replaceAll("\\..*", "");
            Checks.holds(names.group() + " is in the library", own.contains(owner) || LIBRARY.contains(names.group()));
        }
    }

    /** Rule 11: methods stay short; each one ends at the first brace that stands as far to the right as its first line. */
    private static void lines(String bare) {
        Matcher methods = Pattern.compile("(?ms)^( {4}| {8})(?! )[^\n;=]*\\) \\{\n.*?^\\1\\}$").matcher(bare);
        int found = 0;
        while (methods.find()) {
            found++;
            String method = methods.group();
            Checks.holds(method.lines().findFirst().orElse("").strip() + " is short", method.lines().count() <= MOST_LINES);
        }
        int declared = 0;
        for (Class<?> one : classes()) {
            declared += one.getDeclaredMethods().length + one.getDeclaredConstructors().length;
        }
        Checks.due("methods and constructors found in the source", found, declared);
    }
}

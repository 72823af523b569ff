import java.io.IOException;
import java.lang.reflect.InvocationTargetException;
import java.lang.reflect.Method;
import java.nio.file.Files;
import java.nio.file.Path;
import java.util.regex.Matcher;
import java.util.regex.Pattern;

/** The README's example answers what stands behind its calls, and its table names every call of the document's face. */
final class ReadmeTest {
    private static final Pattern ANSWERED = Pattern.compile("(?m)^ropes\\.(\\w+)\\(([^)]*)\\);\\s*// (-?\\d+):");
    private static final Pattern IN_THE_FACE = Pattern.compile("(?m)^ {4}public int (\\w+)\\(([^)]*)\\);$");
    private static final int CALLS = 26;

    private ReadmeTest() {
    }

    static void all(String readme, String document) throws IOException {
        String text = Files.readString(Path.of(readme));
        Checks.about = "README.md: ";
        example(text);
        if (Files.isReadable(Path.of(document))) {
            table(text, Files.readString(Path.of(document)));
        }
        Checks.about = "";
    }

    private static void example(String text) {
        String code = text.substring(text.indexOf("```java") + 7);
        code = code.substring(0, code.indexOf("```"));
        PostRopes ropes = new PostRopes();
        int asked = 0;
        Matcher call = ANSWERED.matcher(code);
        while (call.find()) {
            asked++;
            Checks.due(call.group(), answer(ropes, call.group(1), call.group(2)), Integer.parseInt(call.group(3)));
        }
        Checks.due("lines with an answer, but for the first one", asked, code.strip().lines().count() - 1);
    }

    /** A call that cannot be made answers what no call answers. */
    private static long answer(PostRopes ropes, String name, String arguments) {
        String[] told = arguments.isEmpty() ? new String[0] : arguments.split(", ");
        for (Method method : PostRopes.class.getMethods()) {
            if (method.getName().equals(name) && method.getParameterCount() == told.length) {
                Object[] given = new Object[told.length];
                for (int i = 0; i < told.length; i++) {
                    long number = Long.decode(told[i].replace("L", ""));
                    given[i] = method.getParameterTypes()[i] == long.class ? (Object) number : (Object) (int) number;
                }
                try {
                    return (Integer) method.invoke(ropes, given);
                } catch (IllegalAccessException | InvocationTargetException failure) {
                    return Long.MIN_VALUE;
                }
            }
        }
        return Long.MIN_VALUE;
    }

    private static void table(String text, String document) {
        int calls = 0;
        Matcher face = IN_THE_FACE.matcher(document);
        while (face.find()) {
            calls++;
            String row = "| `" + face.group(1) + "(" + face.group(2).replaceAll("\\b(int|long) ", "") + ")` |";
            Checks.holds("it has the row " + row, text.contains(row));
        }
        Checks.due("calls of the document", calls, CALLS);
    }
}

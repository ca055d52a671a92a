import java.lang.reflect.Method;
import java.nio.file.Files;
import java.nio.file.Path;
import java.util.HashSet;
import java.util.Set;
import java.util.regex.Matcher;
import java.util.regex.Pattern;

/** README.md is right: its example is run call by call, its helper is the one the tests use, and its table has every call. */
public final class ReadmeTests {
    private static final Desk DESK = new Desk();
    private static final Pattern CALL = Pattern.compile("x\\.(\\w+)\\(([^)]*)\\);\\s+// (-?\\d+)\\b.*");
    private static final Pattern TAPE = Pattern.compile("tape\\(x, \"([^\"]*)\"\\);");
    private static final Set<String> USED = new HashSet<>();

    public static void main(String[] args) throws Exception {
        String page = Files.readString(Path.of("README.md"));
        Matcher blocks = Pattern.compile("(?s)```java\n(.*?)```").matcher(page);
        int examples = 0;
        while (blocks.find()) {
            if (blocks.group(1).startsWith("static")) {
                isInDesk(blocks.group(1));
            } else {
                runExample(blocks.group(1));
                examples++;
            }
        }
        DESK.due("examples", examples, 1);
        DESK.due("calls of the example, of 22", USED.size() >= 16 ? 1 : 0, 1);
        tableIsWhole(page);
        DESK.close();
    }

    private static void isInDesk(String helper) throws Exception {
        String desk = Files.readString(Path.of("src/test/java/Desk.java"));
        for (String line : helper.split("\n")) {
            DESK.due("the helper's line '" + line.trim() + "' is the tests' own", desk.contains(line.trim()) ? 1 : 0, 1);
        }
    }

    private static void runExample(String example) throws Exception {
        MarkedProof x = null;
        for (String line : example.split("\n")) {
            Matcher call = CALL.matcher(line);
            Matcher tape = TAPE.matcher(line);
            if (line.equals("MarkedProof x = new MarkedProof();")) {
                x = new MarkedProof();
            } else if (tape.matches()) {
                Desk.tape(x, tape.group(1).replace("\\n", "\n"));
            } else if (call.matches()) {
                DESK.due(line, answerOf(x, call.group(1), call.group(2)), Long.parseLong(call.group(3)));
            } else {
                DESK.due("a line that is none", line, "");
            }
        }
    }

    private static long answerOf(MarkedProof x, String name, String told) throws Exception {
        USED.add(name);
        String[] texts = told.isEmpty() ? new String[0] : told.split(", ");
        Object[] values = new Object[texts.length];
        for (int i = 0; i < texts.length; i++) {
            boolean isFlag = texts[i].equals("true") || texts[i].equals("false");
            values[i] = isFlag ? (Object) Boolean.valueOf(texts[i]) : (Object) (int) (long) Long.decode(texts[i]);
        }
        for (Method m : MarkedProof.class.getMethods()) {
            if (m.getName().equals(name) && m.getDeclaringClass() == MarkedProof.class) {
                return ((Number) m.invoke(x, values)).longValue();
            }
        }
        return Long.MIN_VALUE;
    }

    private static void tableIsWhole(String page) {
        for (Method m : MarkedProof.class.getDeclaredMethods()) {
            if (java.lang.reflect.Modifier.isPublic(m.getModifiers())) {
                boolean isTold = page.matches("(?s).*\n\\| [^|]*`" + m.getName() + "\\([^`]*\\)`.*");
                DESK.due("the table tells " + m.getName(), isTold ? 1 : 0, 1);
            }
        }
    }
}

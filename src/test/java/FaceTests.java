import java.lang.reflect.Constructor;
import java.lang.reflect.Field;
import java.lang.reflect.Method;
import java.lang.reflect.Modifier;
import java.nio.file.Files;
import java.nio.file.Path;
import java.util.ArrayList;
import java.util.Collections;
import java.util.List;
import java.util.regex.Matcher;
import java.util.regex.Pattern;

/** The public face as the document tells it, and the rules of LANGUAGE.md that can be seen from the source. */
public final class FaceTests {
    private static final Desk DESK = new Desk();
    private static final String FACE = "answer(int,boolean)int costs(int,int)int count(int)int distance(int,int)int end(int)int"
        + " error(int,boolean)int fault(int)int feed(int,int,int,int,int)int first()int held(int)int hold()int mark(int,int)int"
        + " marks()int meet(int,int)int next()int pays(int)int price(int,int)int rank(int,int)int second()int unasked(int,int)int"
        + " within(int,int)int word(int,int)long";

    public static void main(String[] args) throws Exception {
        members();
        nestedClasses();
        source();
        DESK.close();
    }

    private static void members() {
        Class<?> c = MarkedProof.class;
        DESK.due("the class", Modifier.toString(c.getModifiers()), "public final");
        List<String> open = new ArrayList<>();
        for (Method m : c.getDeclaredMethods()) {
            if (!Modifier.isPrivate(m.getModifiers())) {
                StringBuilder told = new StringBuilder(m.getName()).append('(');
                for (Class<?> p : m.getParameterTypes()) {
                    told.append(told.charAt(told.length() - 1) == '(' ? "" : ",").append(p.getName());
                }
                open.add(told.append(')').append(m.getReturnType().getName()).toString());
                DESK.due(m.getName(), Modifier.toString(m.getModifiers()), "public");
            }
        }
        Collections.sort(open);
        DESK.due("the methods", String.join(" ", open), FACE);
        List<String> constants = new ArrayList<>();
        for (Field f : c.getDeclaredFields()) {
            if (!Modifier.isPrivate(f.getModifiers())) {
                constants.add(f.getName());
                DESK.due(f.getName(), Modifier.toString(f.getModifiers()), "public static final");
            }
        }
        DESK.due("the constants", String.join(" ", constants), "NONE RANGE FULL STATE");
        DESK.due("their numbers", MarkedProof.NONE * 1000 + MarkedProof.RANGE * 100 + MarkedProof.FULL * 10 + MarkedProof.STATE, -1234);
        Constructor<?>[] made = c.getDeclaredConstructors();
        DESK.due("constructors", made.length, 1);
        DESK.due("the constructor", Modifier.toString(made[0].getModifiers()) + made[0].getParameterCount(), "public0");
    }

    private static void nestedClasses() {
        Class<?>[] nested = MarkedProof.class.getDeclaredClasses();
        DESK.due("11: some twelve classes", nested.length < 12 ? 1 : 0, 1);
        for (Class<?> c : nested) {
            DESK.due("1: " + c.getName() + " is static", Modifier.isStatic(c.getModifiers()) ? 1 : 0, 1);
            DESK.due("1: " + c.getName() + " is not public", Modifier.isPublic(c.getModifiers()) ? 1 : 0, 0);
            int fields = 0;
            for (Field f : c.getDeclaredFields()) {
                boolean isStatic = Modifier.isStatic(f.getModifiers());
                fields += isStatic ? 0 : 1;
                DESK.due("5: " + f.getName(), isStatic && !Modifier.isFinal(f.getModifiers()) ? 1 : 0, 0);
            }
            DESK.due("11: fields of " + c.getName(), fields <= 20 ? 1 : 0, 1);
            for (Method m : c.getDeclaredMethods()) {
                DESK.due("11: parameters of " + m.getName(), m.getParameterCount() <= 7 ? 1 : 0, 1);
                DESK.due("1: the face has " + m.getName(), (" " + FACE).contains(" " + m.getName() + "(") ? 1 : 0, 0);
            }
        }
    }

    private static void source() throws Exception {
        String text = Files.readString(Path.of("src/main/java/MarkedProof.java"));
        String code = text.replaceAll("(?s)/\\*.*?\\*/", "").replaceAll("//[^\n]*", "");
        String ruledOut = "\\b(throw|throws|try|catch|synchronized|assert|import|package|System|Object|protected|volatile|native|null\\.)\\b"
            + "|->|::|Exact\\b|\\?\\s*super|\\bnew\\s+\\w+\\s*\\([^)]*\\)\\s*\\{";
        Matcher m = Pattern.compile(ruledOut).matcher(code);
        DESK.due("a word that is ruled out", m.find() ? m.group() : "", "");
        DESK.due("ASCII alone", text.chars().allMatch(c -> c == 10 || c >= 32 && c < 127) ? 1 : 0, 1);
        int start = 0;
        String[] lines = text.split("\n");
        for (int i = 0; i < lines.length; i++) {
            if (lines[i].matches(" {4,8}\\S.*\\) \\{")) {
                start = i;
            }
            if (lines[i].matches(" {4,8}\\}")) {
                DESK.due("11: a short method at line " + (i + 1), i - start <= 60 || lines[i].matches(" {4}\\}") ? 1 : 0, 1);
            }
        }
    }
}

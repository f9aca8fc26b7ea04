import java.io.IOException;
import java.lang.reflect.Constructor;
import java.lang.reflect.Field;
import java.lang.reflect.Method;
import java.lang.reflect.Modifier;
import java.nio.charset.StandardCharsets;
import java.nio.file.Files;
import java.nio.file.Path;
import java.util.ArrayList;
import java.util.List;
import java.util.Set;
import java.util.TreeSet;
import java.util.regex.Matcher;
import java.util.regex.Pattern;

/** The rules of LANGUAGE.md that can be seen from the class itself or from the words of its source. */
public final class LanguageTest {
    private static final Set<String> FACE = Set.of(
        "sheet(int,int,int)", "set(int,int,int)", "copy(int,int,int,int,int)", "drop(int)", "feed(long,int)", "laws()",
        "fault()", "editions(int)", "answer(int,int,int,int,int)", "saying(int,int)", "play(int,int,int)",
        "standIn(int,int,int,int,int,int)", "allows(int,int,int,int)", "noMore(int,int)", "quarrel(int)",
        "change(int,int,int)", "right(int)", "house(int,int)", "letOut(int,int,int)", "hours(int)", "kind(int)",
        "as(int,int)", "ask(int,int)", "trace(int)", "count(int)", "status()");

    public static void main(String[] args) throws IOException {
        face();
        classes();
        String source = Files.readString(Path.of("src/main/java/CallLaws.java"), StandardCharsets.UTF_8);
        words(source);
        methods(source);
        Check.end();
    }

    private static boolean isHidden(int modifiers) {
        return Modifier.isPrivate(modifiers);
    }

    private static void face() {
        Class<?> c = CallLaws.class;
        Check.holds("1: public and final", Modifier.isPublic(c.getModifiers()) && Modifier.isFinal(c.getModifiers()));
        Set<String> open = new TreeSet<>();
        Set<String> hidden = new TreeSet<>();
        for (Method m : c.getDeclaredMethods()) {
            if (isHidden(m.getModifiers())) {
                hidden.add(m.getName());
                continue;
            }
            List<String> types = new ArrayList<>();
            for (Class<?> t : m.getParameterTypes()) {
                types.add(t.getName());
            }
            open.add(m.getName() + "(" + String.join(",", types) + ")");
            Check.holds("1: public int " + m.getName(), Modifier.isPublic(m.getModifiers()) && m.getReturnType() == int.class);
        }
        Check.holds("1: the face " + open, open.equals(FACE));
        for (Method m : c.getDeclaredMethods()) {
            if (!isHidden(m.getModifiers())) {
                Check.holds("1: no private " + m.getName(), !hidden.contains(m.getName()));
            }
        }
        Set<String> constants = new TreeSet<>();
        for (Field f : c.getDeclaredFields()) {
            if (!isHidden(f.getModifiers())) {
                constants.add(f.getName());
            }
        }
        Check.holds("1: the constants " + constants, constants.equals(Set.of("NONE", "BAD", "STATE", "FULL")));
        Constructor<?>[] made = c.getDeclaredConstructors();
        Check.holds("1: one constructor", made.length == 1 && Modifier.isPublic(made[0].getModifiers())
            && made[0].getParameterCount() == 0);
        Check.due("constant NONE", CallLaws.NONE, -1000000);
        Check.due("constant BAD", CallLaws.BAD, -1000001);
        Check.due("constant STATE", CallLaws.STATE, -1000002);
        Check.due("constant FULL", CallLaws.FULL, -1000003);
    }

    private static void classes() {
        Class<?>[] inside = CallLaws.class.getDeclaredClasses();
        Check.holds("11: some twelve classes", inside.length + 1 <= 12);
        List<Class<?>> all = new ArrayList<>(List.of(inside));
        all.add(CallLaws.class);
        for (Class<?> c : all) {
            Check.holds("2: static " + c, c == CallLaws.class || Modifier.isStatic(c.getModifiers()));
            int fields = 0;
            for (Field f : c.getDeclaredFields()) {
                boolean isStatic = Modifier.isStatic(f.getModifiers());
                fields += isStatic ? 0 : 1;
                Check.holds("5: final " + f, !isStatic || Modifier.isFinal(f.getModifiers()));
            }
            Check.holds("11: some twenty fields in " + c, fields <= 20);
            for (Method m : c.getDeclaredMethods()) {
                Check.holds("11: seven parameters of " + m, m.getParameterCount() <= 7);
                Check.holds("2: no lambda " + m, !m.isSynthetic());
            }
        }
    }

    /** The source without comments and without what stands in quotes. */
    private static String bare(String source) {
        return source.replaceAll("(?s)/\\*.*?\\*/", "").replaceAll("//[^\n]*", "")
            .replaceAll("\"[^\"\n]*\"", "TEXT").replaceAll("'\\\\?.'", "SIGN");
    }

    private static void words(String source) {
        String code = bare(source);
        String[] barred = {"throw", "throws", "try", "catch", "finally", "synchronized", "assert", "import", "package",
            "protected", "var", "Object", "Exception", "Random", "System\\.(?!arraycopy)", "Thread", "hashCode", "toString"};
        for (String word : barred) {
            Check.holds("6, 4: no " + word, !Pattern.compile("\\b" + word + (word.endsWith(")") ? "" : "\\b")).matcher(code).find());
        }
        Check.holds("2: no arrow, no method reference", !code.contains("->") && !code.contains("::"));
        Check.holds("10: no texts joined by +", !code.contains("TEXT +") && !code.contains("+ TEXT"));
        Check.holds("4: signs 1 to 127", source.chars().allMatch(c -> c >= 1 && c <= 127));
        Matcher calls = Pattern.compile("\\b(Integer|Long|Math|Arrays)\\.(\\w+)").matcher(code);
        while (calls.find()) {
            Check.holds("4: " + calls.group(), !calls.group(2).endsWith("Exact"));
        }
        Check.holds("12: nothing is made but in constructors and fields", madeInMethods(code).isEmpty());
    }

    /** Lines with 'new' that are neither a field's nor a constructor's own. */
    private static String madeInMethods(String code) {
        StringBuilder odd = new StringBuilder();
        String method = "";
        Pattern head = Pattern.compile("^\\s*(?:private |public |static )*(?:\\w+(?:\\[\\])? )?(\\w+)\\([^)]*\\) \\{$");
        for (String line : code.split("\n")) {
            Matcher m = head.matcher(line);
            if (m.find() && !line.contains(" else ") && !line.trim().startsWith("if ") && !line.trim().startsWith("for ")) {
                method = m.group(1);
            }
            boolean field = line.trim().startsWith("final ") || line.trim().startsWith("private final ");
            if (line.contains("new ") && !field && !Character.isUpperCase(method.charAt(0))) {
                odd.append(line).append('\n');
            }
        }
        return odd.toString();
    }

    /** Methods begin with a head that ends in a brace, and end where that brace does. */
    private static void methods(String source) {
        String[] lines = source.split("\n");
        Pattern head = Pattern.compile("^(\\s+)(?:public |private |static )*[\\w\\[\\]]+ (\\w+)\\([^)]*\\) \\{$");
        for (int i = 0; i < lines.length; i++) {
            Matcher m = head.matcher(lines[i]);
            if (m.find() && !m.group(2).equals("if")) {
                int end = i;
                while (end < lines.length && !lines[end].equals(m.group(1) + "}")) {
                    end++;
                }
                Check.holds("11: " + m.group(2) + " is short (" + (end - i + 1) + ")", end - i + 1 <= 60);
            }
        }
    }
}

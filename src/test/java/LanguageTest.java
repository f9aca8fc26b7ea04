import java.io.IOException;
import java.lang.reflect.Array;
import java.lang.reflect.Constructor;
import java.lang.reflect.Field;
import java.lang.reflect.Method;
import java.lang.reflect.Modifier;
import java.nio.charset.StandardCharsets;
import java.nio.file.Files;
import java.nio.file.Path;
import java.util.ArrayDeque;
import java.util.ArrayList;
import java.util.Deque;
import java.util.IdentityHashMap;
import java.util.List;
import java.util.Map;
import java.util.Set;
import java.util.TreeSet;
import java.util.regex.Matcher;
import java.util.regex.Pattern;

/** The rules of LANGUAGE.md that can be seen from the class itself or from the words of its source. */
public final class LanguageTest {
    public static void main(String[] args) throws IOException, IllegalAccessException {
        face(Files.readString(Path.of("../shared/DOC.md"), StandardCharsets.UTF_8));
        classes();
        String source = Files.readString(Path.of("src/main/java/CallLaws.java"), StandardCharsets.UTF_8);
        words(source);
        methods(source);
        loops(bare(source));
        room();
        Check.end();
    }

    private static boolean isHidden(int modifiers) {
        return Modifier.isPrivate(modifiers);
    }

    /** The methods that the document's face names, each with the types of what it takes. */
    private static Set<String> faceTold(String document) {
        Set<String> told = new TreeSet<>();
        Matcher m = Pattern.compile("(?m)^    public int (\\w+)\\(([^)]*)\\);$").matcher(document);
        while (m.find()) {
            told.add(m.group(1) + "(" + m.group(2).replaceAll(" \\w+(, |$)", "$1").replace(" ", "") + ")");
        }
        return told;
    }

    private static void face(String document) {
        Class<?> c = CallLaws.class;
        Check.holds("1: public and final", Modifier.isPublic(c.getModifiers()) && Modifier.isFinal(c.getModifiers()));
        Set<String> open = new TreeSet<>();
        Set<String> hidden = new TreeSet<>();
        for (Method m : c.getDeclaredMethods()) {
            if (isHidden(m.getModifiers())) {
                hidden.add(m.getName());
                continue;
            }
            List<String> types = new ArrayList<>();
            for (Class<?> t : m.getParameterTypes()) {
                types.add(t.getName());
            }
            open.add(m.getName() + "(" + String.join(",", types) + ")");
            Check.holds("1: public int " + m.getName(), Modifier.isPublic(m.getModifiers()) && m.getReturnType() == int.class);
        }
        Set<String> told = faceTold(document);
        Check.due("1: the document's face", told.size(), 26);
        Check.holds("1: the face " + open + " is that of the document " + told, open.equals(told));
        for (Method m : c.getDeclaredMethods()) {
            if (!isHidden(m.getModifiers())) {
                Check.holds("1: no private " + m.getName(), !hidden.contains(m.getName()));
            }
        }
        Set<String> constants = new TreeSet<>();
        for (Field f : c.getDeclaredFields()) {
            if (!isHidden(f.getModifiers())) {
                constants.add(f.getName());
            }
        }
        Check.holds("1: the constants " + constants, constants.equals(Set.of("NONE", "BAD", "STATE", "FULL")));
        Constructor<?>[] made = c.getDeclaredConstructors();
        Check.holds("1: one constructor", made.length == 1 && Modifier.isPublic(made[0].getModifiers())
            && made[0].getParameterCount() == 0);
        Check.due("constant NONE", CallLaws.NONE, -1000000);
        Check.due("constant BAD", CallLaws.BAD, -1000001);
        Check.due("constant STATE", CallLaws.STATE, -1000002);
        Check.due("constant FULL", CallLaws.FULL, -1000003);
    }

    private static void classes() {
        Class<?>[] inside = CallLaws.class.getDeclaredClasses();
        Check.holds("11: some twelve classes", inside.length + 1 <= 12);
        List<Class<?>> all = new ArrayList<>(List.of(inside));
        all.add(CallLaws.class);
        for (Class<?> c : all) {
            Check.holds("2: static " + c, c == CallLaws.class || Modifier.isStatic(c.getModifiers()));
            int fields = 0;
            for (Field f : c.getDeclaredFields()) {
                boolean isStatic = Modifier.isStatic(f.getModifiers());
                fields += isStatic ? 0 : 1;
                Check.holds("5: final " + f, !isStatic || Modifier.isFinal(f.getModifiers()));
            }
            Check.holds("11: some twenty fields in " + c, fields <= 20);
            for (Method m : c.getDeclaredMethods()) {
                Check.holds("11: seven parameters of " + m, m.getParameterCount() <= 7);
                Check.holds("2: no lambda " + m, !m.isSynthetic());
            }
        }
    }

    /** The source without comments and without what stands in quotes. */
    private static String bare(String source) {
        return source.replaceAll("(?s)/\\*.*?\\*/", "").replaceAll("//[^\n]*", "")
            .replaceAll("\"[^\"\n]*\"", "TEXT").replaceAll("'\\\\?.'", "SIGN");
    }

    private static void words(String source) {
        String code = bare(source);
        String[] barred = {"throw", "throws", "try", "catch", "finally", "synchronized", "assert", "import", "package",
            "protected", "var", "Object", "Exception", "Random", "System\\.(?!arraycopy)", "Thread", "hashCode", "toString"};
        for (String word : barred) {
            Check.holds("6, 4: no " + word, !Pattern.compile("\\b" + word + (word.endsWith(")") ? "" : "\\b")).matcher(code).find());
        }
        Check.holds("2: no arrow, no method reference", !code.contains("->") && !code.contains("::"));
        Check.holds("10: no texts joined by +", !code.contains("TEXT +") && !code.contains("+ TEXT"));
        Check.holds("4: signs 1 to 127", source.chars().allMatch(c -> c >= 1 && c <= 127));
        Matcher calls = Pattern.compile("\\b(Integer|Long|Math|Arrays)\\.(\\w+)").matcher(code);
        while (calls.find()) {
            Check.holds("4: " + calls.group(), !calls.group(2).endsWith("Exact"));
        }
        Check.holds("12: nothing is made but in constructors and fields", madeInMethods(code).isEmpty());
    }

    /** Lines with 'new' that are neither a field's nor a constructor's own. */
    private static String madeInMethods(String code) {
        StringBuilder odd = new StringBuilder();
        String method = "";
        Pattern head = Pattern.compile("^\\s*(?:private |public |static )*(?:\\w+(?:\\[\\])? )?(\\w+)\\([^)]*\\) \\{$");
        for (String line : code.split("\n")) {
            Matcher m = head.matcher(line);
            if (m.find() && !line.contains(" else ") && !line.trim().startsWith("if ") && !line.trim().startsWith("for ")) {
                method = m.group(1);
            }
            boolean field = line.trim().startsWith("final ") || line.trim().startsWith("private final ");
            if (line.contains("new ") && !field && !Character.isUpperCase(method.charAt(0))) {
                odd.append(line).append('\n');
            }
        }
        return odd.toString();
    }

    /** Methods begin with a head that ends in a brace, and end where that brace does. */
    private static void methods(String source) {
        String[] lines = source.split("\n");
        Pattern head = Pattern.compile("^(\\s+)(?:public |private |static )*[\\w\\[\\]]+ (\\w+)\\([^)]*\\) \\{$");
        for (int i = 0; i < lines.length; i++) {
            Matcher m = head.matcher(lines[i]);
            if (m.find() && !m.group(2).equals("if")) {
                int end = i;
                while (end < lines.length && !lines[end].equals(m.group(1) + "}")) {
                    end++;
                }
                Check.holds("11: " + m.group(2) + " is short (" + (end - i + 1) + ")", end - i + 1 <= 60);
            }
        }
    }

    /**
     * 9: a loop has a counter that is held against a bound in the head and goes one step each round; the
     * body of a 'for' does not touch it, and a 'while' has the step as a line of its body.
     */
    private static void loops(String code) {
        String[] lines = code.split("\n");
        Pattern counted = Pattern.compile("^for \\(int (\\w+) = [^;]+; ([^;]+); (\\w+)(?:\\+\\+|--)\\) \\{$");
        Pattern open = Pattern.compile("^while \\((\\w+) < .*\\) \\{$");
        int seen = 0;
        for (int i = 0; i < lines.length; i++) {
            String line = lines[i].trim();
            if (!line.matches("(for|while|do)\\b.*")) {
                continue;
            }
            seen++;
            String body = bodyOf(lines, i);
            Matcher f = counted.matcher(line);
            Matcher w = open.matcher(line);
            boolean ends = f.matches() && f.group(1).equals(f.group(3))
                    && f.group(2).matches("(.* )?" + f.group(1) + " (<|<=|>=) .*")
                    && !Pattern.compile("\\b" + f.group(1) + " ?(=[^=]|[-+|]=|\\+\\+|--)").matcher(body).find()
                || w.matches() && Pattern.compile("(?m)^\\s*" + w.group(1) + "\\+\\+;$").matcher(body).find();
            Check.holds("9: the end of '" + line + "' can be seen", ends);
        }
        Check.holds("9: loops were looked at", seen > 20);
    }

    private static String bodyOf(String[] lines, int head) {
        String end = lines[head].replaceAll("\\S.*", "") + "}";
        StringBuilder body = new StringBuilder();
        for (int i = head + 1; i < lines.length && !lines[i].equals(end); i++) {
            body.append(lines[i]).append('\n');
        }
        return body.toString();
    }

    /** 12: what one object takes, and that some hundred calls, the dearest among them, take nothing more. */
    private static void room() throws IllegalAccessException {
        CallLaws x = new CallLaws();
        int[] first = roomOf(x);
        Check.holds("12: an object is " + first[0] + " objects", first[0] <= 100);
        Check.holds("12: an object is " + first[1] + " fields and elements", first[1] <= 5000);
        Check.laws(x, Snapshot.LAWS);
        for (int i = 0; i < 100; i++) {
            x.sheet(i % 8, i % 3, 40);
            x.letOut(0, 6, i % 2);
            x.standIn(0, 0, 1, i % 8, 0, 2401);
            x.ask(i % 4, 1);
        }
        int[] last = roomOf(x);
        Check.due("12: objects after 400 calls", last[0], first[0]);
        Check.due("12: fields and elements after 400 calls", last[1], first[1]);
    }

    private static int[] roomOf(Object root) throws IllegalAccessException {
        Map<Object, Object> seen = new IdentityHashMap<>();
        Deque<Object> open = new ArrayDeque<>(List.of(root));
        int[] sum = new int[2];
        while (!open.isEmpty()) {
            Object one = open.pop();
            if (seen.put(one, one) != null) {
                continue;
            }
            sum[0]++;
            if (one.getClass().isArray()) {
                sum[1] += Array.getLength(one);
                for (int i = 0; one instanceof Object[] && i < Array.getLength(one); i++) {
                    open.push(Array.get(one, i));
                }
                continue;
            }
            for (Field f : one.getClass().getDeclaredFields()) {
                if (!Modifier.isStatic(f.getModifiers())) {
                    sum[1]++;
                    f.setAccessible(true);
                    if (!f.getType().isPrimitive()) {
                        open.push(f.get(one));
                    }
                }
            }
        }
        return sum;
    }
}

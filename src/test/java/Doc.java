import java.io.IOException;
import java.nio.charset.StandardCharsets;
import java.nio.file.Files;
import java.nio.file.Path;
import java.util.Map;
import java.util.TreeMap;
import java.util.regex.Matcher;
import java.util.regex.Pattern;

/**
 * The sentences of ../shared/DOC.md: each that a test quotes must stand there, word for word, and in the
 * end none of 'Terms' and of the promises may be left without a quote.
 */
final class Doc {
    private static final Map<String, String> SECTIONS = read();
    private static final Map<String, boolean[]> QUOTED = new TreeMap<>();
    private static String section = "";
    private static String sentence = "";
    private static int tried;

    private Doc() {
    }

    /** Empty where the document is not at hand: then quotes cannot be compared, but what they promise is tested. */
    private static Map<String, String> read() {
        Map<String, String> sections = new TreeMap<>();
        String all;
        try {
            all = Files.readString(Path.of("../shared/DOC.md"), StandardCharsets.UTF_8);
        } catch (IOException e) {
            System.out.println("no ../shared/DOC.md: quotes are not compared");
            return sections;
        }
        Matcher m = Pattern.compile("(?ms)^## (Terms|Promise \\d+)[^\\n]*\\n(.*?)(?=^## )").matcher(all);
        while (m.find()) {
            String text = m.group(2).replaceAll("(?m)^(```.*|Ahead of the calls .*)$", "").replaceAll("(?m)^======== \\d ", "")
                .replaceAll("\\s+", " ").trim().replaceAll("^`[^`]*`: ", "");
            sections.put(m.group(1), text);
        }
        return sections;
    }

    private static void open(String name) {
        section = name;
        Check.holds("the document has " + name, SECTIONS.isEmpty() || SECTIONS.containsKey(name));
        QUOTED.putIfAbsent(name, new boolean[SECTIONS.getOrDefault(name, "").length()]);
    }

    static void terms() {
        open("Terms");
    }

    static void promise(int number) {
        open("Promise " + number);
    }

    /** The tests that follow are of this sentence of the section. */
    static void says(String quote) {
        sentence = quote;
        tried = 0;
        int at = SECTIONS.getOrDefault(section, "").indexOf(quote);
        Check.holds(section + " says '" + quote + "'", SECTIONS.isEmpty() || at >= 0);
        for (int i = Math.max(at, 0); at >= 0 && i < at + quote.length(); i++) {
            QUOTED.get(section)[i] = true;
        }
    }

    static void due(long got, long want) {
        tried++;
        Check.due(section + ", '" + sentence + "', " + tried + ":", got, want);
    }

    static void due(String what, long got, long want) {
        tried++;
        Check.due(section + ", '" + sentence + "', " + tried + ", " + what + ":", got, want);
    }

    static void holds(String what, boolean so) {
        due(what, so ? 1 : 0, 1);
    }

    static void allQuoted() {
        for (Map.Entry<String, String> one : SECTIONS.entrySet()) {
            boolean[] quoted = QUOTED.getOrDefault(one.getKey(), new boolean[one.getValue().length()]);
            StringBuilder left = new StringBuilder();
            for (int i = 0; i < quoted.length; i++) {
                left.append(quoted[i] ? ' ' : one.getValue().charAt(i));
            }
            Check.holds(one.getKey() + " has a test of '" + left.toString().trim() + "'", left.toString().isBlank());
        }
    }
}

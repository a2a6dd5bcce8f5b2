import java.io.IOException;
import java.nio.charset.StandardCharsets;
import java.nio.file.Files;
import java.nio.file.Path;
import java.util.Map;
import java.util.TreeMap;
import java.util.regex.Matcher;
import java.util.regex.Pattern;

/** The words of the document that tests go by: each must stand where it is told, and in the end none may be left. */
final class Says {
    private static final Map<String, Says> PARTS = new TreeMap<>();

    private final String text;
    private final boolean[] tested;

    private Says(String words) {
        text = words.replace("```text", "").replace("```", "").replaceAll("\\s+", " ").trim();
        tested = new boolean[text.length()];
    }

    static void read() throws IOException {
        Path doc = Path.of(System.getProperty("lines.shared"), "DOC.md");
        String all = Files.readString(doc, StandardCharsets.UTF_8);
        String terms = all.substring(all.indexOf("## Terms"), all.indexOf("Ahead of the calls"));
        Matcher term = Pattern.compile("==== (\\d+) ((?s:.*?))(?=====|$)").matcher(terms);
        while (term.find()) PARTS.put("term " + term.group(1), new Says(term.group(2)));
        Matcher promise = Pattern.compile("## Promise (\\d+): \\w[^\n]*\n+`[^`]*`:((?s:.*?))(?=\n## )").matcher(all);
        while (promise.find()) PARTS.put("promise " + promise.group(1), new Says(promise.group(2)));
        Check.due("terms and promises", PARTS.size(), 58);
    }

    static void term(int n, String words) {
        quote("term " + n, words);
    }

    static void promise(int n, String words) {
        quote("promise " + n, words);
    }

    private static void quote(String where, String words) {
        Says part = PARTS.get(where);
        int at = part == null ? -1 : part.place(words);
        Check.under(where + ", \"" + words + "\"");
        Check.holds("that stands there", at >= 0);
        for (int i = at; at >= 0 && i < at + words.length(); i++) part.tested[i] = true;
    }

    /** Where the words stand: of several places the first that is not tested yet. */
    private int place(String words) {
        int found = -1;
        for (int at = text.indexOf(words); at >= 0; at = text.indexOf(words, at + 1)) {
            if (found < 0 || !tested[at] && tested[found]) found = at;
        }
        return found;
    }

    static void nothingIsLeft() {
        for (Map.Entry<String, Says> e : PARTS.entrySet()) {
            Says part = e.getValue();
            StringBuilder left = new StringBuilder();
            for (int i = 0; i < part.tested.length; i++) left.append(part.tested[i] ? '~' : part.text.charAt(i));
            for (String words : left.toString().split("~+")) {
                Check.under(e.getKey());
                Check.holds("no test for \"" + words + "\"", !words.matches("(?s).*[A-Za-z0-9].*"));
            }
        }
    }
}

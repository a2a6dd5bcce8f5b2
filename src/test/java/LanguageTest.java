import java.lang.reflect.Constructor;
import java.lang.reflect.Field;
import java.lang.reflect.Method;
import java.lang.reflect.Modifier;
import java.nio.charset.StandardCharsets;
import java.nio.file.Files;
import java.nio.file.Path;
import java.util.Arrays;
import java.util.HashSet;
import java.util.List;
import java.util.Set;
import java.util.TreeSet;
import java.util.regex.Matcher;
import java.util.regex.Pattern;

/** What of LANGUAGE.md can be looked at from outside, and the face that the document shows. */
public final class LanguageTest {
    private static final List<String> FORBIDDEN = List.of("throw", "throws", "try", "catch", "finally", "synchronized",
        "assert", "package", "record", "enum", "interface", "var", "float", "double", "transient", "volatile", "native");

    public static void main(String[] args) throws Exception {
        String source = Files.readString(Path.of(System.getProperty("lines.source")), StandardCharsets.ISO_8859_1);
        words(source);
        lengths(source);
        face();
        classes();
        Check.end();
    }

    private static void words(String source) {
        for (char c : source.toCharArray()) Check.holds("sign " + (int) c, c == 10 || c >= 32 && c < 127);
        String code = source.replaceAll("/\\*(?s:.*?)\\*/", "").replaceAll("//.*", "").replaceAll("\"[^\"\n]*\"", "\"\"");
        for (String word : FORBIDDEN) {
            Check.holds("no " + word, !Pattern.compile("\\b" + word + "\\b").matcher(code).find());
        }
        for (String sign : new String[] {"->", "::", "@", "\"\" +", "+ \"\""}) {
            Check.holds("no " + sign, !code.contains(sign));
        }
        Matcher imports = Pattern.compile("import ([^;]*);").matcher(code);
        while (imports.find()) Check.holds("import of " + imports.group(1), imports.group(1).equals("java.util.Arrays"));
        Matcher library = Pattern.compile("\\b(Arrays|Math|Integer|Long|System)\\.(\\w+)").matcher(code);
        Set<String> known = Set.of("Arrays.copyOf", "Arrays.fill", "Math.min", "Math.max", "Math.abs",
            "Integer.bitCount", "System.arraycopy");
        while (library.find()) Check.holds(library.group(), known.contains(library.group()));
    }

    /** A method begins with an indented line that ends in "{" and ends with a brace of the same indentation. */
    private static void lengths(String source) {
        String[] lines = source.split("\n");
        for (int i = 0; i < lines.length; i++) {
            Check.holds("line " + (i + 1) + " is short enough", lines[i].length() <= 130);
            Matcher head = Pattern.compile("^( {4}| {8})[^ /*}].*\\) \\{$").matcher(lines[i]);
            if (!head.matches() || lines[i].trim().matches("(if|for|while|switch)\\b.*")) continue;
            int end = i;
            while (!lines[end].equals(head.group(1) + "}")) end++;
            Check.holds(lines[i].trim() + " is short", end - i < 60);
        }
    }

    private static void face() throws Exception {
        Path doc = Path.of(System.getProperty("lines.shared"), "DOC.md");
        String text = Files.readString(doc, StandardCharsets.UTF_8);
        String block = text.substring(text.indexOf("public final class LinesPromised"), text.indexOf("## Terms"));
        Set<String> due = new TreeSet<>();
        Matcher told = Pattern.compile("public int (\\w+)\\(([^)]*)\\);").matcher(block);
        while (told.find()) due.add(told.group(1) + "(" + told.group(2).replaceAll("(\\w+) \\w+", "$1").replace(" ", "") + ")");
        Set<String> is = new TreeSet<>();
        for (Method m : LinesPromised.class.getDeclaredMethods()) {
            if (Modifier.isPrivate(m.getModifiers())) continue;
            String types = String.join(",", Arrays.stream(m.getParameterTypes()).map(Class::getName).toList());
            is.add(m.getName() + "(" + types + ")");
            Check.holds(m.getName(), m.getReturnType() == int.class && m.getModifiers() == Modifier.PUBLIC);
        }
        Check.due("methods of the face", is.size(), 49);
        Check.holds("the face: " + is + ", told: " + due, is.equals(due));
        Constructor<?>[] made = LinesPromised.class.getDeclaredConstructors();
        Check.holds("one public constructor", made.length == 1 && Modifier.isPublic(made[0].getModifiers()));
        Set<String> constants = new TreeSet<>();
        for (Field f : LinesPromised.class.getDeclaredFields()) {
            if (!Modifier.isPrivate(f.getModifiers())) constants.add(f.getName());
        }
        Check.holds("constants: " + constants, constants.equals(Set.of("NONE", "BAD", "STATE", "FULL")));
        Check.due("the class", LinesPromised.class.getModifiers(), Modifier.PUBLIC | Modifier.FINAL);
    }

    private static void classes() {
        Class<?>[] inside = LinesPromised.class.getDeclaredClasses();
        Check.holds("classes: " + inside.length, inside.length <= 12);
        Set<String> open = new HashSet<>();
        for (Method m : LinesPromised.class.getDeclaredMethods()) {
            if (!Modifier.isPrivate(m.getModifiers())) open.add(m.getName());
        }
        look(LinesPromised.class, open);
        for (Class<?> c : inside) {
            Check.holds(c.getName(), Modifier.isStatic(c.getModifiers()) && Modifier.isFinal(c.getModifiers()));
            Check.holds(c.getName(), !Modifier.isPublic(c.getModifiers()) && !Modifier.isProtected(c.getModifiers()));
            Check.due("classes in " + c.getName(), c.getDeclaredClasses().length, 0);
            look(c, open);
        }
    }

    private static void look(Class<?> c, Set<String> open) {
        int own = 0;
        for (Field f : c.getDeclaredFields()) {
            if (!Modifier.isStatic(f.getModifiers())) {
                own++;
                continue;
            }
            Check.holds("final: " + f, Modifier.isFinal(f.getModifiers()));
            Check.holds("a constant: " + f, Set.of(int.class, int[].class).contains(f.getType()));
        }
        Check.holds("fields of " + c, own <= 20);
        for (Method m : c.getDeclaredMethods()) {
            Check.holds("no lambda: " + m, !m.isSynthetic());
            Check.holds("seven parameters at most: " + m, m.getParameterCount() <= 7);
            Check.holds("no equals, hashCode, toString: " + m, !Set.of("equals", "hashCode", "toString").contains(m.getName()));
            boolean ofTheFace = c == LinesPromised.class && !Modifier.isPrivate(m.getModifiers());
            Check.holds("no other method of a public one's name: " + m, ofTheFace || !open.contains(m.getName()));
        }
    }
}

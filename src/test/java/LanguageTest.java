import java.io.IOException;
import java.lang.reflect.Field;
import java.lang.reflect.Method;
import java.lang.reflect.Modifier;
import java.nio.file.Files;
import java.nio.file.Path;
import java.util.ArrayList;
import java.util.List;
import java.util.Set;
import java.util.regex.Matcher;
import java.util.regex.Pattern;

/** What ../shared/LANGUAGE.md rules out and can be seen in the class's text, or in its classes; told by the rule's number. */
public final class LanguageTest {
    // What the class uses of rule 4; the rule allows more, to be added here when it is used.
    private static final Set<String> LIBRARY = Set.of("Integer.bitCount", "Math.max", "Math.min", "System.arraycopy", "Arrays.fill");
    private static final int MOST_PARAMETERS = 7, MOST_LINES = 60, MOST_FIELDS = 20, MOST_CLASSES = 12;

    public static void main(String[] args) throws IOException {
        String text = bare(Files.readString(Path.of("src/main/java/HomeDrives.java")));
        nowhere(1, text, "\\b(package|protected)\\b");
        nowhere(2, text, "->|::|new \\w+\\([^)]*\\)\\s*\\{|@\\w+");
        nowhere(3, text, "\\b(double|float|Object|Map|Set|Optional|var)\\b|\\[\\]\\[\\]\\[\\]");
        nowhere(5, text, "\\bstatic\\s*\\{|\\bstatic (?!final )(int|long|boolean|char|String|byte)(\\[\\])? \\w+ *[=;]");
        nowhere(6, text, "\\b(throw|throws|try|catch|finally|synchronized|assert|equals|hashCode|toString)\\b");
        nowhere(9, text, "while \\(true\\)|for \\(;|for \\([^;]*; *;");
        nowhere(10, text, "\"\" *\\+|\\+ *\"\"");
        nowhere(13, text, "\\b(Random|random|nanoTime|currentTimeMillis|Thread|getenv|getProperty|File|volatile|native)\\b");
        library(text);
        madeWithTheObject(text);
        methodLengths(text);
        classes();
        Due.end();
    }

    /** Without what stands in comments and between quotes. */
    private static String bare(String text) {
        String noComments = text.replaceAll("(?s)/\\*.*?\\*/", " ").replaceAll("//[^\\n]*", " ");
        return noComments.replaceAll("\"[^\"\\n]*\"", "\"\"").replaceAll("'(\\\\.|[^'])'", "' '");
    }

    private static void nowhere(int rule, String text, String pattern) {
        Matcher m = Pattern.compile(pattern).matcher(text);
        while (m.find()) {
            Due.due("rule " + rule + ", \"" + m.group() + "\"", 1, 0);
        }
    }

    private static void library(String text) {
        Matcher imports = Pattern.compile("import ([^;]*);").matcher(text);
        while (imports.find()) {
            Due.due("rule 4, import " + imports.group(1), imports.group(1).equals("java.util.Arrays") ? 1 : 0, 1);
        }
        Matcher calls = Pattern.compile("\\b([A-Z][a-z]\\w*\\.\\w+)\\(").matcher(text);
        while (calls.find()) {
            Due.due("rule 4, " + calls.group(1), LIBRARY.contains(calls.group(1)) ? 1 : 0, 1);
        }
    }

    /** No call makes an object or an array: so no run of calls can fill the room. */
    private static void madeWithTheObject(String text) {
        for (String line : text.split("\n")) {
            if (line.matches(".*\\bnew\\b.*")) {
                Due.due("rule 12, a field is made in: " + line.strip(), line.matches("\\s+private (final )?\\S+ \\w+ = .*;") ? 1 : 0, 1);
            }
        }
    }

    private static void methodLengths(String text) {
        String[] lines = text.split("\n");
        Pattern head = Pattern.compile("\\s+(?!.*\\bclass\\b).*\\b\\w+\\([^;]*\\) \\{");
        Pattern inside = Pattern.compile("\\s+(}? *else )?(if|for|while|switch|do)\\b.*");
        int methods = 0;
        for (int from = 0; from < lines.length; from++) {
            if (head.matcher(lines[from]).matches() && !inside.matcher(lines[from]).matches() && !lines[from].contains("} else")) {
                String end = lines[from].substring(0, lines[from].length() - lines[from].stripLeading().length()) + "}";
                int to = from;
                while (to < lines.length && !lines[to].equals(end)) {
                    to++;
                }
                methods++;
                Due.due("rule 11, lines of " + lines[from].strip(), Math.max(to - from + 1, MOST_LINES), MOST_LINES);
            }
        }
        Due.due("methods were found", methods > 100 ? 1 : 0, 1);
    }

    private static void classes() {
        List<Class<?>> all = new ArrayList<>(List.of(HomeDrives.class.getDeclaredClasses()));
        all.add(HomeDrives.class);
        Due.due("rule 11, classes", Math.max(all.size(), MOST_CLASSES), MOST_CLASSES);
        for (Class<?> one : all) {
            int fields = 0;
            for (Field f : one.getDeclaredFields()) {
                boolean isStatic = Modifier.isStatic(f.getModifiers());
                fields += isStatic ? 0 : 1;
                Due.due("rule 5, " + f, isStatic && !Modifier.isFinal(f.getModifiers()) ? 1 : 0, 0);
            }
            Due.due("rule 11, fields of " + one, Math.max(fields, MOST_FIELDS), MOST_FIELDS);
            for (Method m : one.getDeclaredMethods()) {
                Due.due("rule 11, parameters of " + m, Math.max(m.getParameterCount(), MOST_PARAMETERS), MOST_PARAMETERS);
            }
            Due.due("rule 2, classes within " + one, one == HomeDrives.class ? 0 : one.getDeclaredClasses().length, 0);
        }
    }
}

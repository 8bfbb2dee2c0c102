import java.io.IOException;
import java.lang.reflect.Method;
import java.lang.reflect.Modifier;
import java.nio.file.Files;
import java.nio.file.Path;
import java.util.ArrayList;
import java.util.List;
import java.util.TreeSet;
import java.util.regex.Matcher;
import java.util.regex.Pattern;

/** The examples of README.md, one behind the other on one object: each answer is the one that the page tells. */
public final class ReadmeTest {
    private static final Pattern CALL = Pattern.compile("x\\.([a-z]+)\\(([^)]*)\\); *// (-?\\d+)(?!\\d).*");
    private static final Pattern PIECE = Pattern.compile("\"([^\"]*)\"");

    private final HomeDrives x = new HomeDrives();
    private final StringBuilder text = new StringBuilder();
    private final TreeSet<String> shown = new TreeSet<>();

    public static void main(String[] args) throws IOException, ReflectiveOperationException {
        ReadmeTest one = new ReadmeTest();
        for (String line : examples(Files.readAllLines(Path.of("README.md")))) {
            one.line(line.strip());
        }
        for (Method m : HomeDrives.class.getDeclaredMethods()) {
            if (Modifier.isPublic(m.getModifiers())) {
                Due.due("README.md shows " + m.getName(), one.shown.contains(m.getName()) ? 1 : 0, 1);
            }
        }
        Due.end();
    }

    private static List<String> examples(List<String> page) {
        List<String> lines = new ArrayList<>();
        boolean inside = false;
        for (String line : page) {
            if (line.startsWith("```")) {
                inside = line.equals("```java");
            } else if (inside) {
                lines.add(line);
            }
        }
        return lines;
    }

    private void line(String line) throws ReflectiveOperationException {
        Matcher call = CALL.matcher(line);
        if (call.matches()) {
            shown.add(call.group(1));
            Due.due("README.md: " + line, answer(call.group(1), call.group(2)), Integer.parseInt(call.group(3)));
        } else if (line.startsWith("String text =") || line.startsWith("+ \"")) {
            Matcher piece = PIECE.matcher(line);
            while (piece.find()) {
                text.append(piece.group(1));
            }
        } else if (line.equals("x.feed(c, 1);")) {
            Due.feed(x, text.toString());
        } else {
            boolean frame = line.equals("HomeDrives x = new HomeDrives();") || line.startsWith("for (char c") || line.equals("}");
            Due.due("README.md: a line that is no example: " + line, frame ? 1 : 0, 1);
        }
    }

    private int answer(String name, String numbers) throws ReflectiveOperationException {
        String[] parts = numbers.isEmpty() ? new String[0] : numbers.split(", ");
        for (Method m : HomeDrives.class.getMethods()) {
            if (m.getName().equals(name) && m.getDeclaringClass() == HomeDrives.class) {
                Class<?>[] types = m.getParameterTypes();
                Object[] given = new Object[parts.length];
                for (int i = 0; i < parts.length; i++) {
                    long v = Long.decode(parts[i].replace("L", ""));
                    given[i] = types[i] == long.class ? (Object) v : (Object) (int) v;
                }
                return (Integer) m.invoke(x, given);
            }
        }
        Due.due("README.md: there is a call " + name, 0, 1);
        return 0;
    }
}

import java.io.IOException;
import java.lang.reflect.Field;
import java.lang.reflect.Member;
import java.lang.reflect.Method;
import java.lang.reflect.Modifier;
import java.nio.file.Files;
import java.nio.file.Path;
import java.util.TreeSet;
import java.util.regex.Matcher;
import java.util.regex.Pattern;

/** The public face, and promise 1: a new object. */
public final class FaceTest {
    private static final String FACE = "row(iii) set(iii) copy(iiiii) drop(i) feed(li) evening() fault() drink(ii) undo() "
        + "person(ii) car(ii) far(ii) may(iii) soon(i) odds(iiii) goes(i) home(ii) order(iii) detour(ii) fetch(i) "
        + "house(i) turn(iii) gloves(iii) image(i) restore(i) kind(i) as(ii) ask(ii) trace(i) count(i) status()";

    public static void main(String[] args) throws IOException {
        document(Path.of("../shared/DOC.md"));
        constants();
        members();
        newObject();
        Due.end();
    }

    /** The document's own face is the one that is looked for here. */
    private static void document(Path path) throws IOException {
        if (!Files.exists(path)) {
            System.out.println("the face was not looked up: there is no " + path);
            return;
        }
        Matcher told = Pattern.compile("    public int ([a-z]+)\\(([^)]*)\\);").matcher(Files.readString(path));
        StringBuilder face = new StringBuilder();
        while (told.find()) {
            face.append(face.isEmpty() ? "" : " ").append(told.group(1)).append('(');
            face.append(told.group(2).replaceAll("(int|long) [a-z]+(, )?", "$1").replace("int", "i").replace("long", "l")).append(')');
        }
        Due.due("the face of the document (" + face + ")", face.toString().equals(FACE) ? 1 : 0, 1);
    }

    private static void constants() {
        Due.due("NONE", HomeDrives.NONE, -1000000);
        Due.due("BAD", HomeDrives.BAD, -1000001);
        Due.due("STATE", HomeDrives.STATE, -1000002);
        Due.due("FULL", HomeDrives.FULL, -1000003);
    }

    private static void members() {
        TreeSet<String> want = new TreeSet<>();
        for (String one : FACE.split(" ")) {
            want.add(one);
        }
        TreeSet<String> got = new TreeSet<>();
        for (Method m : HomeDrives.class.getDeclaredMethods()) {
            if (isSeen(m)) {
                got.add(signature(m));
                Due.due(m + " answers an int", m.getReturnType() == int.class ? 1 : 0, 1);
            }
        }
        Due.due("methods " + got, got.equals(want) ? 1 : 0, 1);
        int fields = 0;
        for (Field f : HomeDrives.class.getDeclaredFields()) {
            fields += isSeen(f) ? 1 : 0;
            Due.due(f + " is no static that changes", Modifier.isStatic(f.getModifiers()) && !Modifier.isFinal(f.getModifiers()) ? 1 : 0, 0);
        }
        Due.due("constants", fields, 4);
        Due.due("constructors", HomeDrives.class.getConstructors().length, 1);
        Due.due("final", Modifier.isFinal(HomeDrives.class.getModifiers()) ? 1 : 0, 1);
        hiddenNames(want);
    }

    private static void hiddenNames(TreeSet<String> face) {
        TreeSet<String> names = new TreeSet<>();
        for (String one : face) {
            names.add(one.substring(0, one.indexOf('(')));
        }
        for (Class<?> inside : HomeDrives.class.getDeclaredClasses()) {
            Due.due(inside + " is static", Modifier.isStatic(inside.getModifiers()) ? 1 : 0, 1);
            for (Method m : inside.getDeclaredMethods()) {
                Due.due(m + " bears a public name", names.contains(m.getName()) ? 1 : 0, 0);
            }
        }
    }

    private static boolean isSeen(Member m) {
        return !Modifier.isPrivate(m.getModifiers()) && !m.isSynthetic();
    }

    private static String signature(Method m) {
        StringBuilder b = new StringBuilder(m.getName()).append('(');
        for (Class<?> p : m.getParameterTypes()) {
            b.append(p == int.class ? 'i' : p == long.class ? 'l' : '?');
        }
        return b.append(')').toString();
    }

    private static void newObject() {
        HomeDrives x = new HomeDrives();
        for (int what = 0; what <= 6; what++) {
            Due.due("new: count(" + what + ")", x.count(what), 0);
        }
        Due.due("new: status", x.status(), 0);
        Due.due("new: fault", x.fault(), 0);
        Due.due("new: far", x.far(0, 0), HomeDrives.STATE);
        Due.due("new: far(9, 9)", x.far(9, 9), HomeDrives.STATE);
        Due.due("new: goes", x.goes(0), HomeDrives.STATE);
        Due.due("new: goes(-1)", x.goes(-1), HomeDrives.STATE);
        Due.due("new: home", x.home(-1, -1), HomeDrives.STATE);
        Due.due("new: fetch", x.fetch(601), HomeDrives.STATE);
        Due.due("new: house", x.house(7), HomeDrives.STATE);
        Due.due("new: turn", x.turn(8, -1, 9), HomeDrives.STATE);
        Due.due("new: gloves", x.gloves(8, -1, 9), HomeDrives.STATE);
        Due.due("new: image", x.image(0), HomeDrives.STATE);
        Due.due("new: image(2)", x.image(2), HomeDrives.BAD);
        Due.due("new: restore", x.restore(1), HomeDrives.STATE);
        Due.due("new: undo", x.undo(), HomeDrives.STATE);
        Due.due("new: person", x.person(0, 0), HomeDrives.BAD);
        Due.due("new: car", x.car(0, 0), HomeDrives.BAD);
        Due.due("new: order", x.order(0, 0, 0), HomeDrives.BAD);
        Due.due("new: detour", x.detour(0, 0), HomeDrives.BAD);
        Due.due("new: kind", x.kind(0), HomeDrives.BAD);
        Due.due("new: as", x.as(0, 0), HomeDrives.BAD);
        Due.due("new: ask", x.ask(0, 0), HomeDrives.BAD);
        Due.due("new: trace", x.trace(0), HomeDrives.NONE);
        for (int row = 0; row < 8; row++) {
            Due.due("new: drop(" + row + ")", x.drop(row), -1000011);
        }
    }
}

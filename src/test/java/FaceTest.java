import java.lang.reflect.Constructor;
import java.lang.reflect.Field;
import java.lang.reflect.Method;
import java.lang.reflect.Modifier;
import java.nio.file.Files;
import java.nio.file.Path;
import java.util.Arrays;
import java.util.Set;
import java.util.TreeSet;
import java.util.regex.Matcher;
import java.util.regex.Pattern;

/** The document's public face, and what LANGUAGE.md leaves out of the source. */
public final class FaceTest {
    private static final String[] FACE = {
        "int sound(int, int, int) IndexOutOfBoundsException IllegalArgumentException",
        "int soundRow(int, int, int) IndexOutOfBoundsException IllegalArgumentException",
        "boolean crack(int, boolean) IndexOutOfBoundsException",
        "int hour(int) IllegalArgumentException",
        "int ice(int, int) IndexOutOfBoundsException IllegalArgumentException",
        "int lasts(int, int) IndexOutOfBoundsException IllegalArgumentException",
        "int wind(int) IllegalArgumentException",
        "int course()",
        "int move(int) IllegalArgumentException",
        "int mark(int) IllegalArgumentException",
        "boolean holds()",
        "int feed(int, int, int, int, int)",
        "int rule(int) IllegalArgumentException",
        "int fault()",
        "int boat() IllegalStateException",
        "int place(int, int, int, int) IndexOutOfBoundsException IllegalArgumentException",
        "int clear(int, int) IndexOutOfBoundsException",
        "int finish(int) IndexOutOfBoundsException",
        "int end()",
        "int points(int, int) IndexOutOfBoundsException",
        "int score(int) IndexOutOfBoundsException",
        "int rank(int)",
        "int part(int) IllegalArgumentException",
        "int promote(int) IllegalArgumentException",
        "int fleet(int) IndexOutOfBoundsException",
        "int noise(int)",
        "int draw()",
        "int lot(int)",
        "int count(int)",
    };
    private static final String[] LEFT_OUT = {
        "->", "::", "\\bimport\\b", "\\btry\\b", "\\bcatch\\b", "\\bfinally\\b", "\\bsynchronized\\b", "\\bassert\\b",
        "\\bpackage\\b", "\\bprotected\\b", "Exact\\(", "\\bSystem\\b", "\\bObject\\b", "static \\{", "\\bfloat\\b", "\\bdouble\\b",
        "[^\\x00-\\x7f]",
    };

    private static int wrong = 0;

    public static void main(String[] args) throws Exception {
        members();
        privateNames();
        source();
        System.out.println(wrong == 0 ? "the face is as due" : wrong + " wrong");
        if (wrong != 0) {
            System.exit(1);
        }
    }

    private static void need(boolean good, String what) {
        if (!good) {
            wrong++;
            System.out.println(what);
        }
    }

    private static String told(Method m) {
        StringBuilder all = new StringBuilder(m.getReturnType().getSimpleName()).append(' ').append(m.getName()).append('(');
        Class<?>[] types = m.getParameterTypes();
        for (int i = 0; i < types.length; i++) {
            all.append(i == 0 ? "" : ", ").append(types[i].getSimpleName());
        }
        all.append(')');
        for (Class<?> e : m.getExceptionTypes()) {
            all.append(' ').append(e.getSimpleName());
        }
        return all.toString();
    }

    private static void members() throws Exception {
        Class<?> c = IceRegatta.class;
        need(Modifier.isPublic(c.getModifiers()) && Modifier.isFinal(c.getModifiers()), "the class is not public and final");
        Set<String> open = new TreeSet<>();
        for (Method m : c.getDeclaredMethods()) {
            if (!Modifier.isPrivate(m.getModifiers())) {
                need(Modifier.isPublic(m.getModifiers()) && !Modifier.isStatic(m.getModifiers()), "not as due: " + m);
                open.add(told(m));
            }
        }
        need(open.equals(new TreeSet<>(Arrays.asList(FACE))), "the open methods are " + open);
        Constructor<?>[] constructors = c.getDeclaredConstructors();
        need(constructors.length == 1 && Modifier.isPublic(constructors[0].getModifiers()), "constructors");
        need(constructors[0].getParameterCount() == 0, "the constructor's parameters");
        for (Field f : c.getDeclaredFields()) {
            need(Modifier.isPrivate(f.getModifiers()) || f.getName().equals("NONE"), "open field " + f);
            need(!Modifier.isStatic(f.getModifiers()) || Modifier.isFinal(f.getModifiers()), "static field " + f);
        }
        Field none = c.getField("NONE");
        need(none.getType() == int.class && Modifier.isStatic(none.getModifiers()) && none.getInt(null) == -1, "NONE");
    }

    private static void privateNames() {
        Set<String> open = new TreeSet<>();
        for (Method m : IceRegatta.class.getMethods()) {
            open.add(m.getName());
        }
        need(IceRegatta.class.getDeclaredClasses().length <= 12, "too many classes");
        for (Class<?> inside : IceRegatta.class.getDeclaredClasses()) {
            need(Modifier.isStatic(inside.getModifiers()) && !Modifier.isPublic(inside.getModifiers()), "class " + inside);
            for (Method m : inside.getDeclaredMethods()) {
                need(!open.contains(m.getName()), "a name of the face is used again: " + m);
                need(m.getParameterCount() <= 7, "too many parameters: " + m);
            }
        }
        for (Method m : IceRegatta.class.getDeclaredMethods()) {
            need(!Modifier.isPrivate(m.getModifiers()) || !open.contains(m.getName()), "private " + m);
        }
    }

    private static void source() throws Exception {
        String text = Files.readString(Path.of("src/main/java/IceRegatta.java"));
        String code = text.replaceAll("/\\*\\*.*?\\*/", "").replaceAll("//.*", "");
        for (String left : LEFT_OUT) {
            Matcher m = Pattern.compile(left).matcher(code);
            need(!m.find(), "the source has " + left);
        }
        Matcher thrown = Pattern.compile("throw new (\\w+)\\(").matcher(code);
        while (thrown.find()) {
            need(thrown.group(1).matches("Illegal(State|Argument)Exception|IndexOutOfBoundsException"), thrown.group());
        }
    }
}

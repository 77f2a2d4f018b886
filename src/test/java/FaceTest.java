import java.io.IOException;
import java.lang.reflect.Constructor;
import java.lang.reflect.Field;
import java.lang.reflect.Method;
import java.lang.reflect.Modifier;
import java.nio.charset.StandardCharsets;
import java.nio.file.Files;
import java.nio.file.Path;
import java.util.Arrays;
import java.util.HashSet;
import java.util.Set;
import java.util.TreeSet;

/** The class has the document's face and no more, and its source keeps to what LANGUAGE.md leaves. */
public final class FaceTest {
    private static final String FACE =
        "int sign(int), boolean end(int), int places(), int people(), int skies(), int rule(), int one(int,int) !, "
            + "int place(int,int) !, int sheet(int,int,int,int), int days(int), int moves(int,int), int swaps(int,int), "
            + "int deeds(int), int doubts(int,int), int life(), int undo(), int later(int,int), int when(int,int), "
            + "int even(int,int), int passes(), int order(), int summer(int,int), int nights(int,int), int apart(int), "
            + "int sunniest(), int comes(int,int), int ways(int,int,int), int hides(int,int), int meets(int,int,int), "
            + "int rooms(), int cellars(), int brightest(int), int saw(int,int), int denies(), int guess(), int looks(), "
            + "int heard(int,int), int forget(), int fits(), int asks(), int chance(int,int,int,int), int parasol(int), "
            + "int rests(int), int law(), int years(int,int), boolean keep(int), boolean again(int), int count(int), "
            + "long row(int) !";

    private static String told(Method m) {
        StringBuilder s = new StringBuilder(m.getReturnType().getName() + " " + m.getName() + "(");
        for (Class<?> type : m.getParameterTypes()) {
            s.append(s.charAt(s.length() - 1) == '(' ? "" : ",").append(type.getName());
        }
        s.append(")");
        for (Class<?> e : m.getExceptionTypes()) {
            s.append(e == java.util.NoSuchElementException.class ? " !" : " ?");
        }
        return s.toString();
    }

    private static void members() {
        Check.part("the face");
        Set<String> due = new TreeSet<>(Arrays.asList(FACE.split(", ")));
        Set<String> open = new TreeSet<>();
        Set<String> names = new HashSet<>();
        for (Method m : SunnyOnes.class.getDeclaredMethods()) {
            if (m.isSynthetic()) {
                continue;
            }
            if (Modifier.isPublic(m.getModifiers())) {
                open.add(told(m));
                names.add(m.getName());
            } else {
                Check.yes(m.getName() + " is private", Modifier.isPrivate(m.getModifiers()));
            }
        }
        if (!open.equals(due)) {
            System.out.println("the face is " + open + ", due is " + due);
        }
        Check.yes("the methods", open.equals(due));
        for (Field f : SunnyOnes.class.getDeclaredFields()) {
            boolean none = f.getName().equals("NONE");
            Check.yes("field " + f.getName(), none == Modifier.isPublic(f.getModifiers()));
            Check.yes("field " + f.getName(), none || Modifier.isPrivate(f.getModifiers()));
        }
        Constructor<?>[] made = SunnyOnes.class.getDeclaredConstructors();
        Check.eq("constructors", made.length, 1);
        Check.eq("of nothing", made[0].getParameterCount(), 0);
        Check.yes("the class is public and final", Modifier.isFinal(SunnyOnes.class.getModifiers()));
        Check.yes("as many classes as may be", SunnyOnes.class.getDeclaredClasses().length <= 12);
        for (Class<?> inside : SunnyOnes.class.getDeclaredClasses()) {
            Check.yes(inside + " is static", Modifier.isStatic(inside.getModifiers()));
            for (Method m : inside.getDeclaredMethods()) {
                boolean hides = Modifier.isPrivate(m.getModifiers()) && names.contains(m.getName());
                Check.no(inside + ": " + m.getName() + " bears a name of the face", hides);
            }
        }
    }

    /** Rules 3, 5 and 11 of LANGUAGE.md, as far as they can be seen from outside. */
    private static void sizes(Class<?> c) {
        Check.part("sizes of " + c.getSimpleName());
        Set<String> still = new HashSet<>(Arrays.asList("int", "long", "boolean", "char", "java.lang.String", "[I", "[J", "[C", "[B"));
        int fields = 0;
        for (Field f : c.getDeclaredFields()) {
            boolean shared = Modifier.isStatic(f.getModifiers());
            fields += shared ? 0 : 1;
            Check.yes(f.getName() + " is final", !shared || Modifier.isFinal(f.getModifiers()));
            Check.yes(f.getName() + " is a constant", !shared || still.contains(f.getType().getName()));
        }
        Check.yes("twenty fields", fields <= 20);
        for (Method m : c.getDeclaredMethods()) {
            Check.yes(m.getName() + " takes seven at most", m.getParameterCount() <= 7);
        }
        for (Class<?> inside : c.getDeclaredClasses()) {
            sizes(inside);
        }
    }

    /** No call makes an object but what it throws; no method is long. */
    private static void lines(String code) {
        Check.part("lines");
        int depth = 0;
        int begun = 0;
        String[] lines = code.split("\n");
        for (int i = 0; i < lines.length; i++) {
            String line = lines[i].trim();
            boolean made = line.contains("new ");
            boolean kept = line.matches("(private final .*|\\w+|\\w+\\[i\\]) = new .*|throw new NoSuchElementException\\(\\);");
            Check.yes("line " + i + " makes nothing: " + line, !made || kept);
            boolean head = line.endsWith("{") && line.contains("(") && lines[i].matches("( {4}| {8})\\w.*") && !line.contains(" class ");
            if (head && !line.matches("(for|if|while|switch|do|else|\\}).*")) {
                begun = i;
            }
            Check.yes("line " + i + " is of a short method", i - begun <= 60 || !lines[i].startsWith("        "));
            depth += line.chars().map(c -> c == '{' ? 1 : c == '}' ? -1 : 0).sum();
        }
        Check.eq("braces", depth, 0);
    }

    private static void source() throws IOException {
        Check.part("the source");
        String all = Files.readString(Path.of("src/main/java/SunnyOnes.java"), StandardCharsets.UTF_8);
        String code = all.replaceAll("(?s)/\\*.*?\\*/", "").replaceAll("//[^\n]*", "");
        for (String no : new String[] {
            "->", "::", "finally", "synchronized", "assert", "catch", "instanceof", "System.", "Random", "package ", "static {", "\""
        }) {
            Check.no("it has " + no, code.contains(no));
        }
        Check.eq("imports", code.split("import ").length - 1, 1);
        Check.yes("it is of signs 0 to 127", all.chars().allMatch(c -> c < 128));
        lines(code);
    }

    public static void main(String[] args) throws IOException {
        members();
        sizes(SunnyOnes.class);
        source();
        Check.done();
    }
}

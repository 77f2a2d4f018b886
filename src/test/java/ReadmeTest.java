import java.io.IOException;
import java.io.UncheckedIOException;
import java.lang.reflect.Method;
import java.lang.reflect.Modifier;
import java.nio.charset.StandardCharsets;
import java.nio.file.Files;
import java.nio.file.Path;
import java.util.ArrayList;
import java.util.List;
import java.util.stream.Stream;

/** README.md tells the truth: its example answers as it says, its texts are taken, nothing is left out. */
public final class ReadmeTest {
    private static List<String> lines = new ArrayList<>();

    /** Each call of the example in its order, made by its name, answers what stands behind its //. */
    private static void example() throws ReflectiveOperationException {
        Check.part("the example");
        SunnyOnes x = new SunnyOnes();
        int calls = 0;
        for (String line : lines) {
            if (!line.startsWith("x.")) {
                continue;
            }
            String call = line.substring(2, line.indexOf(';'));
            String due = line.replaceAll(".*// (true|-?\\d+).*", "$1");
            Check.eq(call, answer(x, call), due.equals("true") ? 1 : Long.parseLong(due));
            calls++;
        }
        Check.yes("there is an example", calls >= 20);
    }

    private static long answer(SunnyOnes x, String call) throws ReflectiveOperationException {
        String name = call.substring(0, call.indexOf('('));
        String inside = call.substring(call.indexOf('(') + 1, call.indexOf(')'));
        String[] told = inside.isEmpty() ? new String[0] : inside.split(", ");
        Class<?>[] types = new Class<?>[told.length];
        Object[] given = new Object[told.length];
        for (int i = 0; i < told.length; i++) {
            types[i] = int.class;
            given[i] = Integer.decode(told[i]);
        }
        Object got = SunnyOnes.class.getMethod(name, types).invoke(x, given);
        return got instanceof Boolean ? ((Boolean) got ? 1 : 0) : ((Number) got).longValue();
    }

    /** The text that the table gives for a call. */
    private static String text(String call) {
        for (String line : lines) {
            if (line.matches("\\| `" + call + "`.*\\| `[^`]+` \\|")) {
                return line.replaceAll(".*\\| `([^`]+)` \\|", "$1");
            }
        }
        Check.yes("a text for " + call, false);
        return "";
    }

    private static void texts() {
        Check.part("the texts");
        SunnyOnes x = new SunnyOnes();
        Check.eq("places()", Check.type(x, text("places")).places(), 3);
        Check.eq("people()", Check.type(x, text("people")).people(), 3);
        Check.eq("skies()", Check.type(x, text("skies")).skies(), 4);
        Check.eq("law()", Check.type(x, "s*w/9").law(), 0);
        Check.eq("life()", Check.type(x, text("life")).life(), 4);
        Check.eq("rule()", Check.type(x, text("rule")).rule(), 0);
        Check.eq("a wrong sign", Check.type(x, "9x").skies(), -2);
        Check.eq("a wrong sign in law()", Check.type(x, "sx").law(), -10001);
    }

    private static void nothingLeftOut() throws IOException {
        Check.part("what it names");
        String all = String.join("\n", lines);
        String calls = all.substring(all.indexOf("### Calls"), all.indexOf("- A call tells"));
        int named = 0;
        for (Method m : SunnyOnes.class.getDeclaredMethods()) {
            if (Modifier.isPublic(m.getModifiers())) {
                Check.yes(m.getName(), calls.contains("`" + m.getName() + "`"));
                named++;
            }
        }
        Check.eq("calls in the table", calls.split("`").length / 2, named);
        for (Class<?> inside : SunnyOnes.class.getDeclaredClasses()) {
            Check.yes(inside.getSimpleName(), all.contains("`" + inside.getSimpleName() + "`"));
        }
        try (Stream<Path> tests = Files.list(Path.of("src/test/java"))) {
            tests.map(p -> p.getFileName().toString().replace(".java", ""))
                .filter(name -> name.endsWith("Test"))
                .forEach(name -> Check.yes(name, all.contains("`" + name + "`")));
        } catch (UncheckedIOException e) {
            throw e.getCause();
        }
    }

    public static void main(String[] args) throws IOException, ReflectiveOperationException {
        lines = Files.readAllLines(Path.of("README.md"), StandardCharsets.UTF_8);
        example();
        texts();
        nothingLeftOut();
        Check.done();
    }
}

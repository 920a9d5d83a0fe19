import java.io.IOException;
import java.lang.reflect.Method;
import java.lang.reflect.Modifier;
import java.net.URL;
import java.net.URLClassLoader;
import java.nio.file.Files;
import java.nio.file.Path;
import java.util.ArrayList;
import java.util.List;
import java.util.function.LongSupplier;
import java.util.regex.Matcher;
import java.util.regex.Pattern;
import javax.tools.ToolProvider;

/**
 * What README.md shows of the class's use: its Java blocks, one behind the other, are compiled as they stand there, and
 * each call has to give the answer that stands behind it ("// 4", "// 4: why" or "// throws IllegalStateException: why").
 */
public final class ReadmeTest {
    private static final Path README = Path.of("README.md");
    private static final Pattern MADE = Pattern.compile("MatchFloor \\w+ = new MatchFloor\\(\\);");
    private static final Pattern CALL = Pattern.compile("(\\w+\\.\\w+\\(.*\\)); +// (-?\\d+|throws \\w+)(: .+)?");

    private record Shown(String told, String call, String answer) {
    }

    public static void main(String[] args) throws Exception {
        List<Shown> shown = new ArrayList<>();
        List<String> made = new ArrayList<>();
        readBlocks(shown, made);
        everyMethodIsShown(shown);
        List<LongSupplier> calls = compiled(shown, made);
        for (int i = 0; i < shown.size(); i++) {
            Shown one = shown.get(i);
            Check.due(one.told, Check.answer(calls.get(i)::getAsLong), one.answer);
        }
        Check.end();
    }

    private static void readBlocks(List<Shown> shown, List<String> made) throws IOException {
        boolean isInside = false;
        int number = 0;
        for (String line : Files.readAllLines(README)) {
            number++;
            if (line.startsWith("```")) {
                isInside = line.equals("```java");
            } else if (isInside) {
                readLine("README.md, line " + number + ": ", line.strip(), shown, made);
            }
        }
    }

    private static void readLine(String where, String line, List<Shown> shown, List<String> made) {
        Matcher call = CALL.matcher(line);
        if (call.matches()) {
            shown.add(new Shown(where + call.group(1), call.group(1), call.group(2).replace(' ', '.')));
        } else if (MADE.matcher(line).matches()) {
            made.add(line);
        } else if (!line.isEmpty() && !line.startsWith("//")) {
            Check.tell(where + "neither makes an object nor shows a call with its answer: " + line);
        }
    }

    private static void everyMethodIsShown(List<Shown> shown) {
        for (Method method : MatchFloor.class.getDeclaredMethods()) {
            String begin = "floor." + method.getName() + "(";
            if (Modifier.isPublic(method.getModifiers()) && shown.stream().noneMatch(one -> one.call.startsWith(begin))) {
                Check.tell("README.md shows no call of " + method.getName());
            }
        }
    }

    /** The calls as they stand in README.md, not yet made. */
    private static List<LongSupplier> compiled(List<Shown> shown, List<String> made) throws Exception {
        Path place = Files.createTempDirectory("readme");
        Path source = place.resolve("ReadmeUse.java");
        Path[] toDelete = {place, source, place.resolve("ReadmeUse.class")};
        for (Path path : toDelete) {
            path.toFile().deleteOnExit();
        }
        Files.writeString(source, sourceOf(shown, made));
        int exit = ToolProvider.getSystemJavaCompiler().run(null, null, null, "-Xlint:all", "-Werror",
                "-cp", System.getProperty("java.class.path"), "-d", place.toString(), source.toString());
        if (exit != 0) {
            Check.tell("what README.md shows does not compile");
            Check.end();
        }
        List<LongSupplier> calls = new ArrayList<>();
        try (URLClassLoader loader = new URLClassLoader(new URL[] {place.toUri().toURL()})) {
            loader.loadClass("ReadmeUse").getMethod("fill", List.class).invoke(null, calls);
        }
        return calls;
    }

    private static String sourceOf(List<Shown> shown, List<String> made) {
        StringBuilder text = new StringBuilder();
        text.append("public final class ReadmeUse {\n");
        text.append("    public static void fill(java.util.List<java.util.function.LongSupplier> calls) {\n");
        for (String line : made) {
            text.append("        ").append(line).append('\n');
        }
        for (Shown one : shown) {
            text.append("        calls.add(() -> ").append(one.call).append(");\n");
        }
        return text.append("    }\n}\n").toString();
    }
}

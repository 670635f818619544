import java.io.IOException;
import java.io.StringWriter;
import java.net.URI;
import java.net.URL;
import java.net.URLClassLoader;
import java.nio.file.Files;
import java.nio.file.Path;
import java.util.List;
import java.util.Set;
import java.util.TreeSet;
import java.util.regex.Matcher;
import java.util.regex.Pattern;
import javax.tools.JavaCompiler;
import javax.tools.JavaFileObject;
import javax.tools.SimpleJavaFileObject;
import javax.tools.ToolProvider;

/** The Java lines of README.md, compiled and run as they stand there, answer what it names. */
public final class ReadmeTest {
    private static final Check CHECK = new Check();
    private static final Pattern BLOCK = Pattern.compile("(?s)```java\n(.*?)```");
    private static final Pattern CALL = Pattern.compile("x\\.(\\w+)\\(.*\\);.*");
    private static final Pattern TOLD = Pattern.compile(
        "(x\\.\\w+\\(.*\\)); +// (NONE|UNKNOWN|OUTSIDE|STATE|FULL|-?\\d+L?)(, .+)?");
    private static final Pattern ROW = Pattern.compile("\\| `(\\w+)` *\\| *(-\\d+) \\|.*");

    /** The program that is made of README.md hands its answers over here. */
    public static void answered(String call, long got, long want) {
        CHECK.due("README.md: " + call, got, want);
    }

    public static void main(String[] args) throws Exception {
        String page = Files.readString(Path.of("README.md"));
        refusals(page);
        run(program(page));
        CHECK.end("ReadmeTest");
    }

    private static void refusals(String page) throws Exception {
        Set<String> named = new TreeSet<>();
        for (String line : page.split("\n")) {
            Matcher row = ROW.matcher(line);
            if (row.matches()) {
                named.add(row.group(1));
                answered(row.group(1), Integer.parseInt(row.group(2)),
                    DuneMaps.class.getField(row.group(1)).getInt(null));
            }
        }
        CHECK.so("the table has all constants: " + named,
            named.equals(Set.of("NONE", "UNKNOWN", "OUTSIDE", "STATE", "FULL")));
    }

    /** Each call that stands on a line of its own is asked for the answer behind it. */
    private static String program(String page) {
        StringBuilder lines = new StringBuilder();
        Set<String> shown = new TreeSet<>();
        Matcher block = BLOCK.matcher(page);
        while (block.find()) {
            for (String line : block.group(1).split("\n")) {
                Matcher told = TOLD.matcher(line);
                Matcher call = CALL.matcher(line);
                CHECK.so("README.md names no answer: " + line, told.matches() || !call.matches());
                lines.append(told.matches() ? asked(told.group(1), told.group(2)) : line)
                    .append('\n');
                if (call.matches()) {
                    shown.add(call.group(1));
                }
            }
        }
        CHECK.so("README.md shows all calls, not only " + shown, shown.equals(face()));
        return "public final class Shown { public static void run() {\n" + lines + "} }\n";
    }

    private static String asked(String call, String answer) {
        String want = Character.isLetter(answer.charAt(0)) ? "DuneMaps." + answer : answer;
        return "ReadmeTest.answered(\"" + call + "\", " + call + ", " + want + ");";
    }

    private static Set<String> face() {
        Set<String> names = new TreeSet<>();
        for (var method : DuneMaps.class.getDeclaredMethods()) {
            if (java.lang.reflect.Modifier.isPublic(method.getModifiers())) {
                names.add(method.getName());
            }
        }
        return names;
    }

    private static void run(String program) throws Exception {
        Path out = Files.createTempDirectory("readme");
        try {
            boolean compiled = compile(program, out);
            CHECK.so("README.md's lines compile", compiled);
            if (compiled) {
                URL[] place = {out.toUri().toURL()};
                try (URLClassLoader loader = new URLClassLoader(place)) {
                    loader.loadClass("Shown").getMethod("run").invoke(null);
                }
            }
        } finally {
            Files.deleteIfExists(out.resolve("Shown.class"));
            Files.deleteIfExists(out);
        }
    }

    private static boolean compile(String program, Path out) throws IOException {
        JavaCompiler compiler = ToolProvider.getSystemJavaCompiler();
        JavaFileObject source = new SimpleJavaFileObject(URI.create("string:///Shown.java"),
            JavaFileObject.Kind.SOURCE) {
            @Override
            public CharSequence getCharContent(boolean ignoreErrors) {
                return program;
            }
        };
        StringWriter said = new StringWriter();
        boolean compiled = compiler.getTask(said, null, null, List.of("-d", out.toString(),
            "-cp", System.getProperty("java.class.path")), null, List.of(source)).call();
        System.out.print(said);
        return compiled;
    }
}

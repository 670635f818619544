import java.lang.reflect.Constructor;
import java.lang.reflect.Field;
import java.lang.reflect.Method;
import java.lang.reflect.Modifier;
import java.nio.file.Files;
import java.nio.file.Path;
import java.util.Arrays;
import java.util.List;
import java.util.Set;
import java.util.TreeSet;
import java.util.regex.Matcher;
import java.util.regex.Pattern;
import java.util.stream.Collectors;

/** The rules of LANGUAGE.md that can be looked up, and how much a run of calls makes. */
public final class RulesTest {
    private static final Check CHECK = new Check();
    private static final Path SOURCE = Path.of("src/main/java/DuneMaps.java");
    private static final Set<String> FACE = new TreeSet<>(List.of(
        "int letter(int)", "int blank()", "int fault(int)", "int dunes()", "int cell(int,int)",
        "int wind(boolean)", "int night()", "int walker(int,int)", "int about(int,int)",
        "int as(int,int)", "int step(int,int)", "int map(int,int,int)", "int go(int)",
        "int order(int)", "int feet(int,int,int,int)", "int was()", "int who(int)",
        "int moons(int,int,int)", "int image()", "int restore()", "int count(int)",
        "long digest()"));

    private static final Set<String> LIBRARY = Set.of("Integer.bitCount", "Math.min", "Math.max");

    public static void main(String[] args) throws Exception {
        face();
        constants();
        classesInside();
        words(withoutCommentsAndTexts(Files.readString(SOURCE)));
        methodLengths(Files.readString(SOURCE));
        roomOfARun();
        CHECK.end("RulesTest");
    }

    private static void face() {
        Set<String> seen = new TreeSet<>();
        Set<String> names = new TreeSet<>();
        for (Method method : DuneMaps.class.getDeclaredMethods()) {
            if (Modifier.isPublic(method.getModifiers())) {
                seen.add(told(method));
                names.add(method.getName());
            }
        }
        CHECK.so("the face: " + seen, seen.equals(FACE));
        for (Method method : allMethods()) {
            boolean isPublic = Modifier.isPublic(method.getModifiers());
            CHECK.so("1 name of " + method, isPublic || !names.contains(method.getName()));
            CHECK.so("11 parameters of " + method, method.getParameterCount() <= 7);
        }
        for (Method method : DuneMaps.class.getDeclaredMethods()) {
            int is = method.getModifiers();
            CHECK.so("1 " + method, Modifier.isPublic(is) || Modifier.isPrivate(is));
        }
        Constructor<?>[] made = DuneMaps.class.getDeclaredConstructors();
        CHECK.due("constructors", made.length, 1);
        CHECK.so("public constructor", Modifier.isPublic(made[0].getModifiers()));
        CHECK.so("final class", Modifier.isFinal(DuneMaps.class.getModifiers()));
    }

    private static String told(Method method) {
        String types = Arrays.stream(method.getParameterTypes()).map(Class::getSimpleName)
            .collect(Collectors.joining(","));
        return method.getReturnType().getSimpleName() + " " + method.getName() + "(" + types + ")";
    }

    private static List<Method> allMethods() {
        List<Method> all = new java.util.ArrayList<>(
            Arrays.asList(DuneMaps.class.getDeclaredMethods()));
        for (Class<?> inside : DuneMaps.class.getDeclaredClasses()) {
            all.addAll(Arrays.asList(inside.getDeclaredMethods()));
        }
        return all;
    }

    private static void constants() throws Exception {
        Set<String> open = new TreeSet<>();
        for (Field field : DuneMaps.class.getDeclaredFields()) {
            int is = field.getModifiers();
            if (!Modifier.isPrivate(is)) {
                open.add(field.getName());
                CHECK.so("1 " + field, Modifier.isPublic(is) && Modifier.isStatic(is));
            }
            CHECK.so("5 " + field, !Modifier.isStatic(is) || Modifier.isFinal(is));
        }
        CHECK.so("constants: " + open,
            open.equals(Set.of("NONE", "UNKNOWN", "OUTSIDE", "STATE", "FULL")));
        CHECK.due("NONE", DuneMaps.NONE, -1);
        CHECK.due("UNKNOWN", DuneMaps.UNKNOWN, -101);
        CHECK.due("OUTSIDE", DuneMaps.OUTSIDE, -102);
        CHECK.due("STATE", DuneMaps.STATE, -103);
        CHECK.due("FULL", DuneMaps.FULL, -104);
    }

    private static void classesInside() {
        Class<?>[] inside = DuneMaps.class.getDeclaredClasses();
        CHECK.so("11 classes", inside.length + 1 <= 12);
        for (Class<?> one : inside) {
            int is = one.getModifiers();
            CHECK.so("2 static: " + one, Modifier.isStatic(is));
            CHECK.so("1 not public: " + one, !Modifier.isPublic(is) && !Modifier.isProtected(is));
            CHECK.so("11 fields: " + one, one.getDeclaredFields().length <= 20);
            for (Field field : one.getDeclaredFields()) {
                CHECK.so("5 no static state: " + field, !Modifier.isStatic(field.getModifiers())
                    || Modifier.isFinal(field.getModifiers()));
            }
        }
    }

    private static String withoutCommentsAndTexts(String source) {
        return source.replaceAll("(?s)/\\*.*?\\*/", " ").replaceAll("//[^\n]*", " ")
            .replaceAll("\"(\\\\.|[^\"\\\\])*\"", "\"\"").replaceAll("'(\\\\.|[^'\\\\])'", "' '");
    }

    private static void words(String code) {
        for (String word : List.of("throw", "throws", "try", "catch", "synchronized", "assert",
            "import", "package", "Exception", "System", "Thread", "volatile", "native")) {
            boolean stands = Pattern.compile("\\b" + word + "\\b").matcher(code).find();
            CHECK.so("no word '" + word + "'", !stands);
        }
        Matcher calls = Pattern.compile("\\b(Integer|Long|Math|Arrays|String|Character|Boolean)\\.\\w+")
            .matcher(code);
        while (calls.find()) {
            CHECK.so("4 " + calls.group(), LIBRARY.contains(calls.group()));
        }
        CHECK.so("2 no lambda", !code.contains("->"));
        CHECK.so("2 no method reference", !code.contains("::"));
        CHECK.so("5 no static block", !Pattern.compile("\\bstatic\\s*\\{").matcher(code).find());
        CHECK.so("9 no loop without a counter",
            !Pattern.compile("\\b(while|do)\\b").matcher(code).find());
    }

    private static void methodLengths(String source) {
        String[] lines = source.split("\n");
        Pattern head = Pattern.compile("^( +)[a-zA-Z].*\\(.*\\) \\{$");
        Pattern flow = Pattern.compile("^ +(if|for|while|switch|else)\\b.*");
        for (int i = 0; i < lines.length; i++) {
            Matcher found = head.matcher(lines[i]);
            if (!found.matches() || flow.matcher(lines[i]).matches()) {
                continue;
            }
            int end = i;
            while (!lines[end].equals(found.group(1) + "}")) {
                end++;
            }
            CHECK.so("11 length of" + lines[i], end - i <= 60);
        }
    }

    /** Rows are made in constructors alone: the calls of a run make nothing. */
    private static void roomOfARun() {
        java.lang.management.ThreadMXBean plain =
            java.lang.management.ManagementFactory.getThreadMXBean();
        if (!(plain instanceof com.sun.management.ThreadMXBean)) {
            return;
        }
        com.sun.management.ThreadMXBean threads = (com.sun.management.ThreadMXBean) plain;
        long self = Thread.currentThread().getId();
        DuneMaps first = Check.with("41605270>");
        dearCalls(first);
        threads.getThreadAllocatedBytes(self);
        DuneMaps x = Check.with("41605270>");
        long before = threads.getThreadAllocatedBytes(self);
        for (int i = 0; i < 15; i++) {
            dearCalls(x);
        }
        long made = threads.getThreadAllocatedBytes(self) - before;
        CHECK.so("calls made " + made + " bytes", made < 2000);
    }

    private static void dearCalls(DuneMaps x) {
        for (int i = 0; i < 4; i++) {
            x.walker(i, i * 2);
            x.map(i, i & 1, 8);
        }
        for (int i = 0; i < 8; i++) {
            x.letter('0');
        }
        x.was();
        x.who(1);
        x.order(13);
        x.feet(0, 1, 0, 1);
        x.moons(60, 1, 1);
        x.image();
        x.go(0);
        x.night();
        x.restore();
        x.digest();
    }
}

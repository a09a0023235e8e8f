import java.io.IOException;
import java.lang.reflect.Method;
import java.lang.reflect.Modifier;
import java.nio.file.Files;
import java.nio.file.Path;
import java.util.ArrayList;
import java.util.Comparator;
import java.util.List;
import java.util.regex.Matcher;
import java.util.regex.Pattern;
import java.util.stream.Stream;
import javax.tools.ToolProvider;

/**
 * The examples of README.md, compiled and run as they stand there: the program prints what the page
 * says that it prints, and each call of the other examples answers what stands behind it.
 */
public final class ReadmeTest {
    private static final Path PROGRAM = Path.of("src/main/java/PullCards.java");
    private static final Pattern BLOCK = Pattern.compile("(?s)```(\\w+)\n(.*?)```");
    /** Perhaps what it is kept as, the call, and behind it the answer: a number or a constant. */
    private static final Pattern CALL =
            Pattern.compile("(\\w+ (\\w+) = )?(\\w+\\.\\w+\\(.*?\\));\\s*// (-?\\d+|[A-Z]+)(:.*)?");
    private static int wrong = 0;

    private static void fail(String what) {
        wrong++;
        System.out.println(what);
    }

    public static void main(String[] args) throws Exception {
        String page = Files.readString(Path.of("README.md"));
        checkAllCallsShown(page);
        Path folder = Files.createTempDirectory("readme");
        try {
            checkProgram(page, folder);
            checkExamples(page, folder);
        } finally {
            delete(folder);
        }
        System.out.println(wrong == 0 ? "README.md is as due" : wrong + " things are not as due");
        if (wrong != 0) {
            System.exit(1);
        }
    }

    private static void checkAllCallsShown(String page) {
        String shown = String.join("", blocks(page, "java"));
        for (Method method : PullCards.class.getDeclaredMethods()) {
            boolean open = Modifier.isPublic(method.getModifiers());
            if (open && !shown.contains("." + method.getName() + "(")) {
                fail("no example calls " + method.getName());
            }
        }
    }

    private static List<String> blocks(String page, String kind) {
        List<String> found = new ArrayList<>();
        Matcher block = BLOCK.matcher(page);
        while (block.find()) {
            if (block.group(1).equals(kind)) {
                found.add(block.group(2));
            }
        }
        return found;
    }

    private static void checkProgram(String page, Path folder) throws Exception {
        String printed = compileAndRun(folder, "Mine", blocks(page, "java").get(0));
        String due = blocks(page, "text").get(0);
        if (!printed.equals(due)) {
            fail("Mine prints " + printed + "due is " + due);
        }
    }

    private static void checkExamples(String page, Path folder) throws Exception {
        StringBuilder code = new StringBuilder("public final class Examples {\n"
                + "static void due(String call, long got, long want) {\n"
                + "if (got != want) System.out.println(call + \" answers \" + got + \", not \" + want);\n"
                + "}\npublic static void main(String[] args) {\n");
        List<String> blocks = blocks(page, "java");
        for (String block : blocks.subList(1, blocks.size())) {
            for (String line : block.split("\n")) {
                code.append(checked(line)).append('\n');
            }
        }
        String printed = compileAndRun(folder, "Examples", code.append("}\n}\n").toString());
        if (!printed.isEmpty()) {
            fail(printed);
        }
    }

    /** The line with its answer looked at; a line that tells no answer stays as it is. */
    private static String checked(String line) {
        Matcher call = CALL.matcher(line);
        if (!call.matches()) {
            if (line.matches(".*// (-?\\d|[A-Z]).*")) {
                fail("not read: " + line);
            }
            return line;
        }
        String answer = call.group(4);
        String want = Character.isUpperCase(answer.charAt(0)) ? "PullCards." + answer : answer;
        String told = call.group(3);
        String kept = call.group(1) == null ? "" : call.group(1) + told + "; ";
        String got = call.group(1) == null ? told : call.group(2);
        return kept + "due(\"" + told + "\", " + got + ", " + want + ");";
    }

    private static String compileAndRun(Path folder, String name, String code) throws Exception {
        Path file = folder.resolve(name + ".java");
        Files.writeString(file, code);
        int failed = ToolProvider.getSystemJavaCompiler().run(
                null, null, null, "-d", folder.toString(), PROGRAM.toString(), file.toString());
        if (failed != 0) {
            return name + " does not compile\n";
        }
        String java = Path.of(System.getProperty("java.home"), "bin", "java").toString();
        Process run = new ProcessBuilder(java, "-cp", folder.toString(), name)
                .redirectErrorStream(true)
                .start();
        String printed = new String(run.getInputStream().readAllBytes());
        return run.waitFor() == 0 ? printed : printed + name + " failed\n";
    }

    private static void delete(Path folder) throws IOException {
        try (Stream<Path> all = Files.walk(folder)) {
            for (Path path : all.sorted(Comparator.reverseOrder()).toList()) {
                Files.delete(path);
            }
        }
    }
}

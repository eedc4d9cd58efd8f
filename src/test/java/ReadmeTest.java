import java.io.StringWriter;
import java.net.URL;
import java.net.URLClassLoader;
import java.nio.file.Files;
import java.nio.file.Path;
import java.util.ArrayList;
import java.util.List;
import java.util.regex.Matcher;
import java.util.regex.Pattern;
import java.util.stream.Stream;
import javax.tools.JavaCompiler;
import javax.tools.StandardJavaFileManager;
import javax.tools.ToolProvider;

/**
 * The Java lines of README.md, as one program: a number behind // is what the line answers.
 * Blocks that begin with "static" are methods, the others one run.
 */
public final class ReadmeTest {
    private static final Pattern ANSWERED =
            Pattern.compile("(int \\w+ = )?(x\\.(\\w+)\\(.*\\));\\s*// (-?\\d+)(:.*)?");
    private static final String[] FACE = {"person", "counts", "owe", "owes", "type", "clear", "fault", "item", "talk",
        "meet", "come", "disperse", "through", "soonest", "avoid", "waits", "leg", "way", "tell", "forget", "judge",
        "learns", "struck", "have", "firsts", "strikes", "part", "image", "from", "status", "count", "digest"};

    public static void main(String[] args) throws Exception {
        Path root = Path.of(System.getProperty("afteryou.root", "."));
        String readme = Files.readString(root.resolve("README.md"));
        List<String> called = new ArrayList<>();
        String program = program(readme, called);
        for (String name : FACE) {
            if (!readme.contains("x." + name + "(")) {
                fail("README.md does not show " + name);
            }
        }
        int wrong = run(root, program);
        System.out.println(called.size() + " lines of README.md, " + wrong + " not as due");
        if (wrong != 0 || called.isEmpty()) {
            System.exit(1);
        }
    }

    private static void fail(String why) {
        System.out.println(why);
        System.exit(1);
    }

    private static String program(String readme, List<String> called) {
        StringBuilder methods = new StringBuilder();
        StringBuilder body = new StringBuilder();
        Matcher block = Pattern.compile("(?s)```java\n(.*?)```").matcher(readme);
        while (block.find()) {
            if (block.group(1).startsWith("static")) {
                methods.append(block.group(1));
                continue;
            }
            for (String line : block.group(1).split("\n")) {
                body.append(checked(line, called)).append('\n');
            }
        }
        return "public final class Readme {\n"
                + "static int wrong = 0;\n"
                + "static long due(String call, long got, long want) {\n"
                + "if (got != want) { wrong++;\n"
                + "System.out.println(call + \" answered \" + got + \", README.md says \" + want); }\n"
                + "return got; }\n"
                + methods
                + "public static int run() {\n" + body + "return wrong; } }\n";
    }

    private static String checked(String line, List<String> called) {
        Matcher m = ANSWERED.matcher(line.strip());
        if (!m.matches()) {
            if (line.contains("//")) {
                fail("no answer to be seen: " + line);
            }
            return line;
        }
        called.add(m.group(3));
        String put = m.group(1) == null ? "" : m.group(1) + "(int) ";
        String call = m.group(2);
        return put + "due(\"" + call + "\", " + call + ", " + m.group(4) + "L);";
    }

    private static int run(Path root, String program) throws Exception {
        Path out = Files.createTempDirectory("readme");
        try {
            Path source = out.resolve("Readme.java");
            Files.writeString(source, program);
            JavaCompiler javac = ToolProvider.getSystemJavaCompiler();
            StringWriter said = new StringWriter();
            boolean compiled;
            try (StandardJavaFileManager files = javac.getStandardFileManager(null, null, null)) {
                compiled = javac.getTask(said, files, null, List.of("-d", out.toString()), null,
                        files.getJavaFileObjects(root.resolve("src/main/java/AfterYou.java"), source)).call();
            }
            if (!compiled) {
                fail(said.toString());
            }
            try (URLClassLoader loader = new URLClassLoader(new URL[] {out.toUri().toURL()})) {
                return (Integer) loader.loadClass("Readme").getMethod("run").invoke(null);
            }
        } finally {
            remove(out);
        }
    }

    private static void remove(Path out) throws Exception {
        try (Stream<Path> files = Files.list(out)) {
            for (Path file : files.toList()) {
                Files.delete(file);
            }
        }
        Files.delete(out);
    }
}

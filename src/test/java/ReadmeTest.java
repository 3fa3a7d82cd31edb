import java.io.IOException;
import java.lang.reflect.Method;
import java.lang.reflect.Modifier;
import java.net.URL;
import java.net.URLClassLoader;
import java.nio.file.DirectoryStream;
import java.nio.file.Files;
import java.nio.file.Path;
import java.util.ArrayList;
import java.util.List;
import java.util.Map;
import java.util.Set;
import java.util.TreeMap;
import java.util.TreeSet;
import java.util.regex.Matcher;
import java.util.regex.Pattern;
import javax.tools.JavaCompiler;
import javax.tools.ToolProvider;

/** README.md: its examples answer what their comments say, and all that it must tell of stands on it. */
public final class ReadmeTest {
    private static final Path README = Path.of("README.md");

    // A statement, with the name that it declares if there is one, and what the comment behind it begins with.
    private static final Pattern TOLD = Pattern.compile(
        "(?:\\w+ (\\w+) = )?(.+?);\\s*// (true|false|-?\\d+\\.\\d+|-?\\d+|throws \\w+)(?:[:,].*)?");

    private static final String[] EXCEPTIONS = {"IndexOutOfBoundsException", "IllegalArgumentException",
        "IllegalStateException"};

    private ReadmeTest() {
    }

    public static void main(String[] args) throws IOException, ReflectiveOperationException {
        String text = Files.readString(README);
        examples(text);
        calls(text);
        exceptions(text);
        tests(text);
        Due.end();
    }

    private static List<String> blocks(String text, String language) {
        List<String> blocks = new ArrayList<>();
        StringBuilder block = null;
        String of = "";
        for (String line : text.split("\n")) {
            boolean isFence = line.startsWith("```");
            if (isFence && block == null) {
                block = new StringBuilder();
                of = line.substring(3);
            } else if (isFence) {
                if (of.equals(language)) {
                    blocks.add(block.toString());
                }
                block = null;
            } else if (block != null) {
                block.append(line).append('\n');
            }
        }
        return blocks;
    }

    // ---- the examples

    private static void examples(String text) throws IOException, ReflectiveOperationException {
        List<String> blocks = blocks(text, "java");
        Due.same("there are examples", true, blocks.size() >= 5);
        StringBuilder code = new StringBuilder("public final class Examples {\n");
        code.append("  public static void play(java.util.List<String[]> told) {\n");
        for (String block : blocks) {
            code.append("    {\n");
            for (String line : block.split("\n")) {
                code.append(played(line.trim()));
            }
            code.append("    }\n");
        }
        code.append("  }\n}\n");
        List<String[]> told = new ArrayList<>();
        for (String[] one : play(code.toString(), told)) {
            boolean fits = one[1].equals(one[2]);
            Due.same("README: " + one[0] + " answered " + one[2] + ", it says " + one[1] + ": whether that fits", true,
                fits);
        }
    }

    private static String played(String line) {
        Matcher matcher = TOLD.matcher(line);
        if (!matcher.matches()) {
            Due.same("README: \"" + line + "\" makes a den", true, line.equals("MailDen den = new MailDen();"));
            return line + "\n";
        }
        String name = matcher.group(1);
        String call = matcher.group(2);
        String due = matcher.group(3);
        if (due.startsWith("throws ")) {
            return "try { " + told(call, due, "\"\" + " + call) + "} catch (RuntimeException e) { "
                + told(call, due, "\"throws \" + e.getClass().getSimpleName()") + "}\n";
        }
        if (name != null) {
            return "int " + name + " = " + call + "; " + told(call, due, "\"\" + " + name) + "\n";
        }
        return told(call, due, "\"\" + " + call) + "\n";
    }

    private static String told(String call, String due, String answer) {
        return "told.add(new String[] {\"" + call + "\", \"" + due + "\", " + answer + "}); ";
    }

    private static List<String[]> play(String code, List<String[]> told)
            throws IOException, ReflectiveOperationException {
        Path at = Files.createTempDirectory("readme");
        Path file = at.resolve("Examples.java");
        try {
            Files.writeString(file, code);
            JavaCompiler compiler = ToolProvider.getSystemJavaCompiler();
            String own = System.getProperty("java.class.path");
            int wrong = compiler.run(null, null, null, "-cp", own, "-d", at.toString(), file.toString());
            Due.same("README: its examples compile", 0, wrong);
            if (wrong == 0) {
                try (URLClassLoader loader = new URLClassLoader(new URL[] {at.toUri().toURL()})) {
                    loader.loadClass("Examples").getMethod("play", List.class).invoke(null, told);
                }
            }
        } finally {
            Files.deleteIfExists(at.resolve("Examples.class"));
            Files.deleteIfExists(file);
            Files.deleteIfExists(at);
        }
        Due.same("README: its examples were played", true, told.size() > 50);
        return told;
    }

    // ---- what must stand on it

    private static List<Method> face() {
        List<Method> face = new ArrayList<>();
        for (Method method : MailDen.class.getDeclaredMethods()) {
            if (Modifier.isPublic(method.getModifiers())) {
                face.add(method);
            }
        }
        return face;
    }

    private static void calls(String text) {
        for (Method method : face()) {
            boolean told = Pattern.compile("[`.]" + method.getName() + "[`(]").matcher(text).find();
            Due.same("README tells of " + method.getName(), true, told);
        }
    }

    /** The table that says which calls throw what must be as the face is. */
    private static void exceptions(String text) {
        Map<String, String> due = new TreeMap<>();
        for (Method method : face()) {
            StringBuilder throwing = new StringBuilder();
            for (Class<?> one : method.getExceptionTypes()) {
                throwing.append(one.getSimpleName()).append(' ');
            }
            due.put(method.getName(), throwing.toString());
        }
        Map<String, String> told = new TreeMap<>();
        int from = text.indexOf("\n| calls |");
        int to = text.indexOf("\n\n", Math.max(0, from));
        Due.same("README has the table of what is thrown", true, from > 0 && to > from);
        for (String row : text.substring(Math.max(0, from), Math.max(0, to)).split("\n")) {
            String[] cells = row.split("\\|", -1);
            Matcher names = Pattern.compile("`(\\w+)`").matcher(cells.length > 1 ? cells[1] : "");
            StringBuilder throwing = new StringBuilder();
            for (int k = 0; k < EXCEPTIONS.length && k + 2 < cells.length; k++) {
                throwing.append(cells[k + 2].trim().equals("yes") ? EXCEPTIONS[k] + " " : "");
            }
            while (names.find()) {
                told.put(names.group(1), throwing.toString());
            }
        }
        Due.same("README: " + told + " is thrown, due is " + due + ": whether that fits", true, due.equals(told));
    }

    /** It tells how all tests are run, and of each what it is for. */
    private static void tests(String text) throws IOException {
        Due.same("README tells the one command", true, blocks(text, "").contains("bash .ci/run\n"));
        Due.same("that can be run", true, Files.isExecutable(Path.of(".ci/run")));
        Set<String> due = new TreeSet<>();
        try (DirectoryStream<Path> files = Files.newDirectoryStream(Path.of("src/test/java"), "*Test.java")) {
            for (Path file : files) {
                due.add(file.getFileName().toString().replace(".java", ""));
            }
        }
        Set<String> told = new TreeSet<>();
        Matcher matcher = Pattern.compile("(?m)^\\| `(\\w+Test)` \\| \\S").matcher(text);
        while (matcher.find()) {
            told.add(matcher.group(1));
        }
        Due.same("README tells of " + told + ", there are " + due + ": whether that fits", true, due.equals(told));
    }
}

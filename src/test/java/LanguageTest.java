import java.io.IOException;
import java.lang.reflect.Field;
import java.lang.reflect.Member;
import java.lang.reflect.Method;
import java.lang.reflect.Modifier;
import java.nio.file.Files;
import java.nio.file.Path;
import java.util.ArrayList;
import java.util.List;
import java.util.Set;
import java.util.TreeSet;
import java.util.regex.Matcher;
import java.util.regex.Pattern;

/** The rules of ../shared/LANGUAGE.md that the program's text, or its classes, can tell. */
public final class LanguageTest {
    private static final String INDEX = "IndexOutOfBoundsException";
    private static final String ARGUMENT = "IllegalArgumentException";
    private static final String STATE = "IllegalStateException";

    private static final String[] FACE = {
        "int module()" + throwing(STATE),
        "int line(int,int,int,int)" + throwing(INDEX, ARGUMENT, STATE),
        "int load(int)" + throwing(INDEX, STATE),
        "int spec(int,int,int)" + throwing(ARGUMENT, STATE),
        "int place(int,boolean,int,int)" + throwing(INDEX, ARGUMENT, STATE),
        "int ofModule(int,int)" + throwing(INDEX, ARGUMENT),
        "int start(int)" + throwing(INDEX, STATE),
        "int supervise(int)" + throwing(INDEX, STATE),
        "int run(int)" + throwing(ARGUMENT),
        "int tick(int)" + throwing(ARGUMENT),
        "boolean send(int,int,int)" + throwing(INDEX, ARGUMENT),
        "int signal(int,int)" + throwing(INDEX, ARGUMENT),
        "int ofProcess(int,int)" + throwing(INDEX, ARGUMENT),
        "int local(int,int)" + throwing(INDEX),
        "int mail(int,int,int)" + throwing(INDEX, ARGUMENT),
        "int ofSupervisor(int,int)" + throwing(INDEX, ARGUMENT),
        "int named(int)" + throwing(INDEX),
        "int many(int)" + throwing(ARGUMENT),
        "double meanLines()" + throwing(),
        "int wouldFall(int,int)" + throwing(INDEX, ARGUMENT),
        "int wouldPurge(int)" + throwing(INDEX),
        "int overBy(int,int)" + throwing(ARGUMENT),
        "int passedOver(int,int)" + throwing(INDEX, ARGUMENT),
        "long digest()" + throwing(),
    };

    private static final String THROWN = "(IllegalStateException|IllegalArgumentException|IndexOutOfBoundsException"
        + "|ArithmeticException|UnsupportedOperationException|NoSuchElementException|RuntimeException)";

    private static final String[] FORBIDDEN = {"::", "\\bfinally\\b", "\\bassert\\b", "\\bsynchronized\\b",
        "\\bprotected\\b", "\\bvolatile\\b", "\\bnative\\b", "Exact\\(", "\\bSystem\\.(?!arraycopy\\()",
        "\\bMath\\.random", "\\btry\\s*\\(", "\\bpackage\\b", "\\bThread\\b", "\\b(equals|hashCode|toString)\\(.*\\)\\s*\\{"};

    private LanguageTest() {
    }

    public static void main(String[] args) throws IOException {
        String text = Files.readString(Path.of("src/main/java/MailDen.java"));
        Due.same("signs are 1 to 127", true, text.chars().allMatch(c -> c > 0 && c < 128));
        String code = text.replaceAll("(?s)/\\*.*?\\*/", "").replaceAll("//[^\n]*", "");
        words(code);
        methodsAreShort(text);
        List<Class<?>> classes = new ArrayList<>();
        collect(MailDen.class, classes);
        Due.same("classes, some twelve at most", true, classes.size() <= 12);
        for (Class<?> one : classes) {
            fields(one);
            methods(one);
        }
        face();
        Due.end();
    }

    private static String throwing(String... names) {
        return " throws " + List.of(names);
    }

    private static String simpleNames(Class<?>[] types, String between) {
        List<String> names = new ArrayList<>();
        for (Class<?> type : types) {
            names.add(type.getSimpleName());
        }
        return String.join(between, names);
    }

    private static void collect(Class<?> from, List<Class<?>> all) {
        all.add(from);
        for (Class<?> inner : from.getDeclaredClasses()) {
            int is = inner.getModifiers();
            Due.same(inner + " is not public or protected", false, Modifier.isPublic(is) || Modifier.isProtected(is));
            collect(inner, all);
        }
    }

    private static boolean isHidden(Member member) {
        return Modifier.isPrivate(member.getModifiers()) || member.isSynthetic();
    }

    private static void face() {
        Due.same("the class is public and final", Modifier.PUBLIC | Modifier.FINAL,
            MailDen.class.getModifiers());
        Due.same("one constructor", 1, MailDen.class.getDeclaredConstructors().length);
        Due.same("it is public", 1, MailDen.class.getConstructors().length);
        Due.same("it takes nothing", 0, MailDen.class.getConstructors()[0].getParameterCount());
        Set<String> due = new TreeSet<>(List.of(FACE));
        Set<String> names = new TreeSet<>();
        for (Method method : MailDen.class.getDeclaredMethods()) {
            if (!isHidden(method)) {
                names.add(method.getName());
                String told = method.getReturnType().getSimpleName() + " " + method.getName() + "("
                    + simpleNames(method.getParameterTypes(), ",") + ") throws ["
                    + simpleNames(method.getExceptionTypes(), ", ") + "]";
                Due.same(told + " is of the face", true, due.remove(told));
                Due.same(told + " is public", Modifier.PUBLIC, method.getModifiers());
            }
        }
        Due.same("none is missing of " + due, 0, due.size());
        for (Method method : MailDen.class.getDeclaredMethods()) {
            if (Modifier.isPrivate(method.getModifiers())) {
                Due.same(method + " has no name of a public one", false, names.contains(method.getName()));
            }
        }
        for (Field field : MailDen.class.getDeclaredFields()) {
            Due.same(field + " is private", true, isHidden(field));
        }
    }

    private static void fields(Class<?> of) {
        int own = 0;
        for (Field field : of.getDeclaredFields()) {
            if (field.isSynthetic()) {
                continue;
            }
            if (!Modifier.isStatic(field.getModifiers())) {
                own++;
                continue;
            }
            Class<?> type = field.getType();
            boolean fits = Set.of(int.class, long.class, boolean.class, char.class, String.class, int[].class,
                long[].class, char[].class, byte[].class).contains(type) || of.isEnum();
            Due.same(field + " is a constant", true, fits && Modifier.isFinal(field.getModifiers()));
        }
        Due.same(of + " has some twenty fields at most", true, own <= 20);
    }

    private static void methods(Class<?> of) {
        for (Method method : of.getDeclaredMethods()) {
            Due.same(method + " takes seven at most", true, method.getParameterCount() <= 7);
        }
    }

    private static int count(String pattern, String text) {
        Matcher matcher = Pattern.compile(pattern).matcher(text);
        int found = 0;
        while (matcher.find()) {
            found++;
        }
        return found;
    }

    private static void words(String code) {
        for (String word : FORBIDDEN) {
            Due.same("has " + word, 0, count(word, code));
        }
        Due.same("no lambda", count("->", code), count("(?m)^\\s*(case\\b.*|default)\\s*->", code));
        Due.same("imports", count("\\bimport\\b", code),
            count("import java\\.util\\.(Arrays|ArrayList|List|Iterator|NoSuchElementException|\\*);", code));
        Due.same("throws", count("\\bthrow\\b", code), count("throw new " + THROWN + "\\((\"[^\"]*\")?\\);", code));
        Due.same("catches", count("\\bcatch\\b", code), count("catch \\(" + THROWN + "( ?\\| ?" + THROWN + ")* ", code));
    }

    private static void methodsAreShort(String text) {
        String start = "";
        int since = 0;
        int line = 0;
        for (String row : text.split("\n")) {
            line++;
            if (row.matches(" {4,8}[a-zA-Z].*\\(.*") && !row.contains(";")) {
                start = row.trim();
                since = line;
            }
            if (row.matches(" {4,8}}") && since > 0) {
                Due.same(start + " is short", true, line - since <= 60);
                since = 0;
            }
        }
    }
}

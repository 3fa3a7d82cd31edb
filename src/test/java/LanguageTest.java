import java.io.IOException;
import java.nio.file.Files;
import java.nio.file.Path;
import java.util.ArrayList;
import java.util.List;
import java.util.regex.Matcher;
import java.util.regex.Pattern;

/** The rules of ../shared/LANGUAGE.md that a look at the text of the program can tell. */
public final class LanguageTest {
    private static final String[] FORBIDDEN = {"->", "::", "\\bfinally\\b", "\\bcatch\\b", "\\btry\\b", "\\bassert\\b",
        "\\bsynchronized\\b", "\\binstanceof\\b", "\\bvar\\b", "\\bprotected\\b", "\\bvolatile\\b", "\\bnative\\b",
        "\"", "Exact\\(", "\\bObject\\b", "\\bClass\\b", "\\bSystem\\.(?!arraycopy)", "\\bMath\\.(?!max\\(|min\\()"};

    private LanguageTest() {
    }

    public static void main(String[] args) throws IOException {
        String text = Files.readString(Path.of("src/main/java/MailDen.java"));
        Due.same("signs are 1 to 127", true, text.chars().allMatch(c -> c > 0 && c < 128));
        String code = text.replaceAll("(?s)/\\*.*?\\*/", "").replaceAll("//[^\n]*", "");
        for (String word : FORBIDDEN) {
            Due.same("has " + word, false, Pattern.compile(word).matcher(code).find());
        }
        Due.same("imports java.util.Arrays alone", 1, count("\\bimport\\b", code));
        Due.same("it is that one", 1, count("import java\\.util\\.Arrays;", code));
        Due.same("classes, twelve at most", true, count("\\bclass\\b", code) <= 12);
        Due.same("one public class", 1, count("public final class", code));
        Due.same("the face: a constructor and 24 methods", 25, count("\n    public (?!final class)", code));
        Due.same("nothing else is public", 26, count("\\bpublic\\b", code));
        methodsAreShort(text);
        noNameOfTheFace(code);
        Due.end();
    }

    private static int count(String pattern, String text) {
        Matcher matcher = Pattern.compile(pattern).matcher(text);
        int found = 0;
        while (matcher.find()) {
            found++;
        }
        return found;
    }

    private static void methodsAreShort(String text) {
        String start = "";
        int since = 0;
        int line = 0;
        for (String row : text.split("\n")) {
            line++;
            if (row.matches(" {4,8}[a-zA-Z].*\\(.*") && !row.contains(";")) {
                start = row.trim();
                since = line;
            }
            if (row.matches(" {4,8}}") && since > 0) {
                Due.same(start + " is short", true, line - since <= 60);
                since = 0;
            }
        }
    }

    private static void noNameOfTheFace(String code) {
        List<String> face = new ArrayList<>();
        Matcher open = Pattern.compile("\n    public \\w+ (\\w+)\\(").matcher(code);
        while (open.find()) {
            face.add(open.group(1));
        }
        Due.same("24 names", 24, face.size());
        for (String name : face) {
            String type = "(?:(?:public|private|static|final) )*(?!return|else|new)\\w[\\w\\[\\]]*";
            Due.same(name + " is declared once", 1, count("\n +" + type + " " + name + "\\(", code));
        }
    }
}

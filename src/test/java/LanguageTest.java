import java.io.IOException;
import java.nio.file.Files;
import java.nio.file.Path;
import java.util.regex.Matcher;
import java.util.regex.Pattern;

/** The rules of LANGUAGE.md that the text of the class shows. */
public final class LanguageTest {
    private static final String SOURCE = "src/main/java/DawnFair.java";
    private static final String[] NEVER = {"throw", "throws", "try", "catch", "synchronized", "assert", "package",
        "hashCode", "toString", "->", "::", "\\w+Exact\\(", "System\\.(?!arraycopy)\\w+", "Thread", "Random", "protected",
        "static \\{"};

    public static void main(String[] args) throws IOException {
        Check c = new Check("LanguageTest");
        String code = Files.readString(Path.of(SOURCE)).replaceAll("(?s)/\\*.*?\\*/", "").replaceAll("//[^\n]*", "");
        for (String word : NEVER) {
            String bounded = Character.isLetter(word.charAt(0)) ? "\\b" + word : word;
            String whole = word.matches("[a-zA-Z]+") ? bounded + "\\b" : bounded;
            c.holds("no " + word, !Pattern.compile(whole).matcher(code).find());
        }
        Matcher imports = Pattern.compile("import ([\\w.]+);").matcher(code);
        while (imports.find()) {
            c.holds("import " + imports.group(1), imports.group(1).matches("java\\.util\\.(Arrays|ArrayList|List)"));
        }
        Matcher fields = Pattern.compile("\\bstatic (?!final\\b)\\w+(\\[\\])* \\w+ *[=;]").matcher(code);
        c.holds("static fields are final", !fields.find());
        Matcher classes = Pattern.compile("\\b(class|record|enum|interface) \\w+").matcher(code);
        int found = 0;
        while (classes.find()) {
            found++;
        }
        c.holds("twelve classes at most", found <= 12);
        methodsAreShort(c, code);
        callsMakeNothing(c, code);
        c.end();
    }

    /** All objects of a run live in one room: what an object needs is made with it, and no call makes more. */
    private static void callsMakeNothing(Check c, String code) {
        code.lines().filter(line -> line.matches(".*\\bnew\\b.*")).forEach(line ->
            c.holds("made with the object:" + line, line.matches(" +private final \\S+ \\w+ = new .*;")));
        c.holds("no array is copied", !Pattern.compile("\\bclone\\(|copyOf").matcher(code).find());
    }

    private static void methodsAreShort(Check c, String code) {
        Matcher methods = Pattern.compile("(?m)^( ++)[\\w\\[\\] ]+ (\\w+)\\(([^)]*)\\) \\{$").matcher(code);
        while (methods.find()) {
            int end = code.indexOf("\n" + methods.group(1) + "}", methods.end());
            long lines = code.substring(methods.start(), end).lines().count();
            c.holds(methods.group(2) + " has sixty lines at most", lines <= 60);
            c.holds(methods.group(2) + " takes seven numbers at most", methods.group(3).split(",").length <= 7);
        }
    }
}

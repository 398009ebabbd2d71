import java.io.IOException;
import java.lang.reflect.Field;
import java.lang.reflect.Modifier;
import java.nio.file.Files;
import java.nio.file.Path;
import java.util.regex.Matcher;
import java.util.regex.Pattern;

/** What of ../shared/LANGUAGE.md can be seen in the source text and in the classes; it takes the place of no reader. */
final class LanguageTest {
    private static final int LINES_OF_A_METHOD = 60;
    private static final int CLASSES = 12;
    private static final int FIELDS = 20;

    public static void main(String[] args) throws IOException {
        String source = Files.readString(Path.of("src/main/java/GhostTrain.java"));
        String bare = withoutCommentsAndTexts(source);
        none(bare, "rule 6", "\\b(throw|throws|try|catch|finally|synchronized|assert|volatile|transient)\\b");
        none(bare, "rule 6: no such method of its own", "\\b(equals|hashCode|toString|finalize)\\s*\\([^)]*\\)\\s*\\{");
        none(bare, "rule 2", "(?<!\\bcase [^;{}\\n]{1,80})(?<!\\bdefault )->|::|@interface");
        none(bare, "rule 1: no package", "\\bpackage\\b");
        none(bare, "rule 4: no library but Arrays, ArrayList, List", "\\bimport\\s+(?!java\\.util\\.(Arrays|ArrayList|List);)");
        none(bare, "rule 4", "\\b\\w+Exact\\s*\\(|\\bSystem\\.(?!arraycopy)|\\b(Random|Thread|StrictMath|Object)\\b");
        none(bare, "rule 3", "\\bvar\\b|\\[\\]\\s*\\[\\]\\s*\\[\\]");
        none(bare, "rule 5: no static initialiser", "\\bstatic\\s*\\{");
        none(bare, "rule 9: a loop without an end of its own", "while\\s*\\(true\\)|for\\s*\\(\\s*;\\s*;");
        methodsStayShort(bare);
        int classes = count(GhostTrain.class);
        Due.holds("rule 11: " + classes + " classes", classes <= CLASSES);
        Due.end();
    }

    private static String withoutCommentsAndTexts(String source) {
        String noTexts = source.replaceAll("\"(\\\\.|[^\"\\\\\n])*\"", "\"\"").replaceAll("'(\\\\.|[^'\\\\\n])'", "' '");
        return noTexts.replaceAll("(?s)/\\*.*?\\*/", "").replaceAll("//[^\n]*", "");
    }

    private static void none(String bare, String rule, String pattern) {
        Matcher found = Pattern.compile(pattern).matcher(bare);
        boolean broken = found.find();
        Due.holds(rule + (broken ? ": " + found.group() : ""), !broken);
    }

    private static void methodsStayShort(String bare) {
        Matcher heads = Pattern.compile("(?m)^( +)[\\w\\[\\]<> ]+ (\\w+)\\(([^)]*)\\) \\{$").matcher(bare);
        int methods = 0;
        while (heads.find()) {
            int end = bare.indexOf("\n" + heads.group(1) + "}", heads.end());
            long lines = bare.substring(heads.start(), Math.max(heads.start(), end)).lines().count();
            Due.holds("rule 11: " + heads.group(2) + " has " + lines + " lines", lines <= LINES_OF_A_METHOD);
            Due.holds("rule 11: " + heads.group(2) + " takes too much", heads.group(3).split(",").length <= 7);
            methods++;
        }
        Due.holds("methods were found: " + methods, methods > 60);
    }

    private static int count(Class<?> of) {
        int own = 0;
        for (Field field : of.getDeclaredFields()) {
            boolean still = Modifier.isStatic(field.getModifiers());
            Due.holds("rule 5: " + field, !still || Modifier.isFinal(field.getModifiers()));
            own += still ? 0 : 1;
        }
        Due.holds("rule 11: " + of + " has " + own + " fields", own <= FIELDS);
        int classes = 1;
        for (Class<?> inside : of.getDeclaredClasses()) {
            Due.holds("rule 2: " + inside, Modifier.isStatic(inside.getModifiers()));
            Due.holds("rule 1: " + inside, (inside.getModifiers() & (Modifier.PUBLIC | Modifier.PROTECTED)) == 0);
            classes += count(inside);
        }
        return classes;
    }
}

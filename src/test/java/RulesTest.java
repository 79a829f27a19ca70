import java.io.IOException;
import java.nio.file.Files;
import java.nio.file.Path;
import java.util.regex.Matcher;
import java.util.regex.Pattern;

/** Rules of LANGUAGE.md that can be seen in the text of the class. */
public final class RulesTest {
    private static final Due due = new Due();

    private static final String[] FORBIDDEN = {
        "\\bpackage\\b", "\\bthrows?\\b", "\\btry\\b", "\\bcatch\\b", "\\bfinally\\b",
        "\\bsynchronized\\b", "\\bassert\\b", "\\bvolatile\\b", "\\bprotected\\b", "->", "::", "\"",
        "\\bnew \\w+(<\\w*>)?\\([^)]*\\) *\\{", "\\bstatic *\\{", "Exact\\b", "\\bequals *\\(",
        "\\bhashCode\\b", "\\btoString\\b", "\\bRandom\\b", "\\bcurrentTimeMillis\\b",
        "\\bnanoTime\\b", "\\bimport\\b", "\\bwhile *\\( *true",
    };

    public static void main(String[] args) throws IOException {
        String all = Files.readString(Path.of("src/main/java/KeyGraves.java"));
        String code = all.replaceAll("(?s)/\\*.*?\\*/", "").replaceAll("//[^\n]*", "");
        for (String forbidden : FORBIDDEN) {
            Matcher matcher = Pattern.compile(forbidden).matcher(code);
            due.is("the code has " + forbidden, matcher.find() ? 1 : 0, 0);
        }
        due.is("signs that are not ASCII", all.chars().filter(sign -> sign > 126).count(), 0);
        mutableStatics(code);
        classes(code);
        methods(code);
        due.end();
    }

    private static void mutableStatics(String code) {
        for (String line : code.split("\n")) {
            boolean isField = line.contains("static ") && !line.contains("(")
                && !line.contains("class ");
            if (isField) {
                due.is(line.trim() + " is final", line.contains("final ") ? 1 : 0, 1);
            }
        }
    }

    private static void classes(String code) {
        Matcher matcher = Pattern.compile("(.*)\\bclass (\\w+)").matcher(code);
        int classes = 0;
        while (matcher.find()) {
            classes++;
            if (!matcher.group(2).equals("KeyGraves")) {
                due.is(matcher.group(2) + " is private and static",
                    matcher.group(1).contains("private static ") ? 1 : 0, 1);
            }
        }
        due.is("too many classes: " + classes, classes > 12 ? 1 : 0, 0);
    }

    /** Methods are told by their indent: 4 in the class itself, 8 in the classes inside. */
    private static void methods(String code) {
        String start = "(?m)^( {4}| {8})(?! )(?!.*\\b(class|return|if|for|switch)\\b)[^=;\n]*\\(([^)]*)\\) \\{$";
        Matcher matcher = Pattern.compile(start).matcher(code);
        int methods = 0;
        while (matcher.find()) {
            methods++;
            String end = "\n" + matcher.group(1) + "}\n";
            int lines = code.substring(matcher.start(), code.indexOf(end, matcher.start()))
                .split("\n").length;
            String name = matcher.group().trim();
            due.is(name + " is long: " + lines, lines > 60 ? 1 : 0, 0);
            int parameters = matcher.group(3).split(",").length;
            due.is(name + " has many parameters", parameters > 7 ? 1 : 0, 0);
        }
        due.is("the methods that were looked at: " + methods, methods > 25 ? 1 : 0, 1);
    }
}

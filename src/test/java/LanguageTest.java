import java.io.IOException;
import java.nio.file.Files;
import java.nio.file.Path;
import java.util.regex.Matcher;
import java.util.regex.Pattern;

/** What of ../shared/LANGUAGE.md can be seen in the text of the program; its path is the first argument. */
public final class LanguageTest {
    private static final Due D = new Due();
    private static final String[] RULED_OUT = {"\\bthrow\\b", "\\bthrows\\b", "\\btry\\b", "\\bcatch\\b", "\\bsynchronized\\b", "\\bassert\\b", "->",
        "::", "\\bpackage\\b", "\\bprotected\\b", "\\bvar\\b", "\\bnew\\s+\\w+\\s*\\([^()]*\\)\\s*\\{", "\\bequals\\s*\\(", "\\bhashCode\\b",
        "\\btoString\\b", "Exact\\b", "\\bSystem\\.(?!arraycopy)", "\\bstatic\\s*\\{", "@", "\\bThread\\b", "\\bRandom\\b", "\\blong\\s*\\[\\]\\s*\\[",
        "while\\s*\\(\\s*true", "for\\s*\\(\\s*;\\s*;"};

    public static void main(String[] args) throws IOException {
        String text = withoutCommentsAndTexts(Files.readString(Path.of(args[0])));
        for (String pattern : RULED_OUT) {
            Matcher found = Pattern.compile(pattern).matcher(text);
            D.holds("nothing like " + pattern, !found.find());
        }
        Matcher imports = Pattern.compile("\\bimport\\s+([\\w.*]+)").matcher(text);
        while (imports.find()) {
            String name = imports.group(1);
            D.holds("import of " + name, name.equals("java.util.Arrays") || name.equals("java.util.ArrayList") || name.equals("java.util.List"));
        }
        Matcher statics = Pattern.compile("\\bstatic\\b(?!\\s+final)[^;(){}]*[;=]").matcher(text);
        D.holds("static fields are final", !statics.find());
        methodsAreShort(text);
        D.holds("at most twelve classes", text.split("\\bclass\\b").length - 1 <= 12);
        D.end();
    }

    private static String withoutCommentsAndTexts(String text) {
        return text.replaceAll("(?s)/\\*.*?\\*/", "").replaceAll("//[^\n]*", "").replaceAll("\"[^\"\n]*\"", "\"\"").replaceAll("'[^'\n]'", "' '");
    }

    private static void methodsAreShort(String text) {
        Pattern head = Pattern.compile("( {4}| {8})(?! |if|for|while|switch|do|else)[\\w<>\\[\\] ]+\\(([^()]*)\\) \\{");
        String[] lines = text.split("\n");
        int methods = 0;
        for (int i = 0; i < lines.length; i++) {
            Matcher found = head.matcher(lines[i]);
            if (!found.matches()) {
                continue;
            }
            methods++;
            int end = i;
            while (!lines[end].equals(found.group(1) + "}")) {
                end++;
            }
            D.holds(lines[i].strip() + " has at most seven parameters", found.group(2).split(",").length <= 7);
            D.holds(lines[i].strip() + " has at most sixty lines", end - i + 1 <= 60);
        }
        D.holds("methods were found", methods > 60);
    }
}

import java.io.IOException;
import java.nio.file.Files;
import java.nio.file.Path;
import java.util.ArrayList;
import java.util.List;
import java.util.Map;
import java.util.Set;
import java.util.TreeMap;
import java.util.TreeSet;
import java.util.regex.Matcher;
import java.util.regex.Pattern;

/** What of ../shared/LANGUAGE.md can be seen in the text of the program; its path is the first argument. */
public final class LanguageTest {
    private static final Due D = new Due();
    private static final String[] RULED_OUT = {"\\bthrow\\b", "\\bthrows\\b", "\\btry\\b", "\\bcatch\\b", "\\bsynchronized\\b", "\\bassert\\b", "->",
        "::", "\\bpackage\\b", "\\bprotected\\b", "\\bvar\\b", "\\bnew\\s+\\w+\\s*\\([^()]*\\)\\s*\\{", "\\bequals\\s*\\(", "\\bhashCode\\b",
        "\\btoString\\b", "Exact\\b", "\\bSystem\\.(?!arraycopy)", "\\bstatic\\s*\\{", "@", "\\bThread\\b", "\\bRandom\\b", "\\blong\\s*\\[\\]\\s*\\[",
        "while\\s*\\(\\s*true", "for\\s*\\(\\s*;\\s*;"};

    public static void main(String[] args) throws IOException {
        String text = withoutCommentsAndTexts(Files.readString(Path.of(args[0])));
        for (String pattern : RULED_OUT) {
            Matcher found = Pattern.compile(pattern).matcher(text);
            D.holds("nothing like " + pattern, !found.find());
        }
        Matcher imports = Pattern.compile("\\bimport\\s+([\\w.*]+)").matcher(text);
        while (imports.find()) {
            String name = imports.group(1);
            D.holds("import of " + name, name.equals("java.util.Arrays") || name.equals("java.util.ArrayList") || name.equals("java.util.List"));
        }
        Matcher statics = Pattern.compile("\\bstatic\\b(?!\\s+final)[^;(){}]*[;=]").matcher(text);
        D.holds("static fields are final", !statics.find());
        methodsAreShort(text);
        callsAreShallow(text);
        D.holds("at most twelve classes", text.split("\\bclass\\b").length - 1 <= 12);
        D.end();
    }

    private static String withoutCommentsAndTexts(String text) {
        return text.replaceAll("(?s)/\\*.*?\\*/", "").replaceAll("//[^\n]*", "").replaceAll("\"[^\"\n]*\"", "\"\"").replaceAll("'[^'\n]'", "' '");
    }

    private record Method(String head, String name, int parameters, List<String> lines) {
    }

    private static List<Method> methods(String text) {
        Pattern head = Pattern.compile("( {4}| {8})(?! |if|for|while|switch|do|else)[\\w<>\\[\\] ]*\\b(\\w+)\\(([^()]*)\\) \\{");
        List<String> lines = List.of(text.split("\n"));
        List<Method> methods = new ArrayList<>();
        for (int i = 0; i < lines.size(); i++) {
            Matcher found = head.matcher(lines.get(i));
            if (found.matches()) {
                int end = i + lines.subList(i, lines.size()).indexOf(found.group(1) + "}");
                methods.add(new Method(lines.get(i).strip(), found.group(2), found.group(3).split(",").length, lines.subList(i + 1, end)));
            }
        }
        D.holds("methods were found", methods.size() > 60);
        return methods;
    }

    private static void methodsAreShort(String text) {
        for (Method method : methods(text)) {
            D.holds(method.head + " has at most seven parameters", method.parameters <= 7);
            D.holds(method.head + " has at most sixty lines", method.lines.size() + 2 <= 60);
        }
    }

    // Methods of one name count as one here. Chains begin with the face; one that comes to a method again is a recursion, and ends there.
    private static void callsAreShallow(String text) {
        Map<String, Set<String>> calls = new TreeMap<>();
        for (Method method : methods(text)) {
            calls.computeIfAbsent(method.name, name -> new TreeSet<>());
        }
        for (Method method : methods(text)) {
            Matcher found = Pattern.compile("\\b(\\w+)\\(").matcher(String.join("\n", method.lines));
            while (found.find()) {
                if (calls.containsKey(found.group(1))) {
                    calls.get(method.name).add(found.group(1));
                }
            }
        }
        D.holds("calls were found", calls.get("ask").contains("askedResult"));
        for (Method method : methods(text)) {
            if (method.head.startsWith("public ")) {
                List<String> longest = longestChain(calls, method.name, new ArrayList<>());
                D.holds(longest + " has at most eight calls", longest.size() <= 8);
            }
        }
    }

    private static List<String> longestChain(Map<String, Set<String>> calls, String name, List<String> above) {
        List<String> chain = new ArrayList<>(above);
        chain.add(name);
        List<String> longest = chain;
        for (String next : calls.get(name)) {
            if (!chain.contains(next)) {
                List<String> longer = longestChain(calls, next, chain);
                longest = longer.size() > longest.size() ? longer : longest;
            }
        }
        return longest;
    }
}

import java.util.ArrayList;
import java.util.List;
import java.util.function.Supplier;
import java.util.function.ToIntFunction;
import java.util.regex.Matcher;
import java.util.regex.Pattern;

/**
 * The sentences of the document that have a test of their own. A test says the document's words first and then
 * tells what is due; at the end, each word of each section has to have been said by a test.
 */
final class Sentences {
    private record Said(String section, String words, boolean tested) {
    }

    private final List<Said> all = new ArrayList<>();
    private final Due due = new Due();
    private String section = "";
    private String now = "";
    private int dueNow;

    void section(String heading) {
        endsSentence();
        section = heading;
    }

    /** The words, exactly as they stand in the section, that the answers which follow are due to. */
    void says(String words) {
        endsSentence();
        now = words;
        all.add(new Said(section, words, true));
    }

    /** Words that promise nothing which an answer could break. */
    void promisesNothing(String words) {
        endsSentence();
        all.add(new Said(section, words, false));
    }

    void due(String call, long got, long want) {
        dueNow++;
        due.due(where() + call, got, want);
    }

    void holds(String what, boolean is) {
        dueNow++;
        due.holds(where() + what, is);
    }

    /** Two objects that nothing may tell apart. */
    void same(String what, LoafMemory one, LoafMemory other) {
        dueNow++;
        due.holds(where() + what, Told.withItsPast(one).equals(Told.withItsPast(other)));
    }

    /** A call that is a change: it is recorded, and undo() brings back what was. */
    void isChange(String call, Supplier<LoafMemory> made, ToIntFunction<LoafMemory> doing) {
        LoafMemory one = made.get();
        LoafMemory other = made.get();
        int before = one.count(4);
        holds(call + " is no error", doing.applyAsInt(one) >= 0);
        due(call + " is recorded", one.count(4), Math.min(6, before + 1));
        due(call + " is undone", one.undo(), Math.min(5, before));
        holds(call + " leaves nothing when it is undone", Told.all(one).equals(Told.but(other, 4, one.count(4))));
    }

    /** A call that is none: nothing is recorded, and nothing is another one then. */
    void changesNothing(String call, Supplier<LoafMemory> made, ToIntFunction<LoafMemory> doing) {
        LoafMemory one = made.get();
        int answer = doing.applyAsInt(one);
        holds(call + " is no error", answer >= 0 || answer == LoafMemory.NONE);
        same(call + " changes nothing", one, made.get());
    }

    void end(String document) {
        endsSentence();
        for (String part : document.split("(?m)^## ")) {
            int line = part.indexOf('\n');
            account(part.substring(0, line).strip(), bare(part.substring(line)));
        }
        for (Said said : all) {
            due.holds("no such section: " + said.section, document.contains("\n## " + said.section + "\n"));
        }
        System.out.println(all.stream().filter(Said::tested).count() + " sentences have a test of their own");
        due.end();
    }

    // The text without signatures, names of parameters and fences.
    private static String bare(String text) {
        String bare = text.replaceAll("(?s)```java.*?```", " ").replaceAll("```(text)?", " ");
        bare = bare.replaceAll("(?m)^- `\\w+`:", " ").replaceAll("(?m)^`[^`]*\\)`:", " ");
        return bare.replaceAll("\\s+", " ").strip();
    }

    private void account(String heading, String text) {
        String rest = text;
        for (Said said : all) {
            if (said.section.equals(heading)) {
                due.holds("the document says at its place: " + said.words, rest.contains(said.words));
                rest = rest.replaceFirst(Pattern.quote(said.words), Matcher.quoteReplacement("|"));
            }
        }
        rest = rest.replace("|", " ").strip();
        due.holds("\"" + heading + "\": all has a test, but: " + rest, rest.isEmpty() || isFree(heading));
    }

    private static boolean isFree(String heading) {
        return heading.startsWith("#") || heading.equals("Not promised");
    }

    private void endsSentence() {
        due.holds("a test was made of: " + now, now.isEmpty() || dueNow > 0);
        now = "";
        dueNow = 0;
    }

    private String where() {
        return section + ", \"" + now + "\": ";
    }
}

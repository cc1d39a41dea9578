import java.util.HashSet;
import java.util.Random;
import java.util.Set;

/**
 * Promise 9: the fault is the first character that cannot stand at its place. Here that is taken by its words: of what
 * can still follow the characters read so far, all is kept, and the first character that leaves nothing is the fault.
 */
public final class FaultTest {
    private static final Due D = new Due();
    // One sign for each way in which signs differ, with those next to the edges.
    private static final String SIGNS = "al`m#04519:({+-*?)}/";
    private static final int SHORT = 4;
    private static final int LONG_TEXTS = 20000;

    public static void main(String[] args) {
        allFrom("");
        Random random = new Random(9);
        for (int i = 0; i < LONG_TEXTS; i++) {
            String text = grown(random, 5);
            if (text.length() <= 60) {
                check(text);
                check(text.substring(0, random.nextInt(text.length())));
                check(withOneOtherSign(random, text));
            }
        }
        D.end();
    }

    // A sign more behind a fault does not move it, so only one such text is tried for each fault.
    private static void allFrom(String text) {
        check(text);
        int fault = faultOf(text);
        boolean wholeSoFar = fault == LoafMemory.NONE || fault == text.length();
        if (text.length() < SHORT && wholeSoFar) {
            for (int i = 0; i < SIGNS.length(); i++) {
                allFrom(text + SIGNS.charAt(i));
            }
        } else if (text.length() < SHORT) {
            check(text + "a");
        }
    }

    private static void check(String text) {
        D.due("fault() of " + text, Texts.fault(new LoafMemory(), text), faultOf(text));
    }

    private static int faultOf(String text) {
        Set<String> canFollow = Set.of("R");
        for (int i = 0; i < text.length(); i++) {
            Set<String> after = new HashSet<>();
            for (String rest : canFollow) {
                addWhatFollows(rest, text.charAt(i), after);
            }
            if (after.isEmpty()) {
                return i;
            }
            canFollow = after;
        }
        return canFollow.contains("") ? LoafMemory.NONE : text.length();
    }

    // R: a recipe; L: a loaf's digit; N: a number's second digit; O: an operation; another sign is itself.
    private static void addWhatFollows(String due, char sign, Set<String> after) {
        if (due.isEmpty()) {
            return;
        }
        String rest = due.substring(1);
        switch (due.charAt(0)) {
            case 'R' -> addRecipes(rest, sign, after);
            case 'L' -> addIf("01234".indexOf(sign) >= 0, rest, after);
            case 'N' -> addIf("0123456789".indexOf(sign) >= 0, rest, after);
            case 'O' -> addIf("+-*".indexOf(sign) >= 0, rest, after);
            default -> addIf(sign == due.charAt(0), rest, after);
        }
    }

    private static void addRecipes(String rest, char sign, Set<String> after) {
        addIf("abcdefghijkl".indexOf(sign) >= 0, rest, after);
        addIf("0123456789".indexOf(sign) >= 0, rest, after);
        addIf("123456789".indexOf(sign) >= 0, "N" + rest, after);
        addIf(sign == '#', "L" + rest, after);
        addIf(sign == '(', "ROR)" + rest, after);
        addIf(sign == '{', "R?R:R}" + rest, after);
    }

    private static void addIf(boolean is, String rest, Set<String> after) {
        if (is) {
            after.add(rest);
        }
    }

    private static String grown(Random random, int depth) {
        return switch (random.nextInt(depth == 0 ? 3 : 7)) {
            case 0 -> String.valueOf((char) ('a' + random.nextInt(12)));
            case 1 -> "#" + random.nextInt(5);
            case 2 -> String.valueOf(random.nextInt(100));
            case 3, 4 -> "{" + grown(random, depth - 1) + "?" + grown(random, depth - 1) + ":" + grown(random, depth - 1) + "}";
            default -> "(" + grown(random, depth - 1) + "+-*".charAt(random.nextInt(3)) + grown(random, depth - 1) + ")";
        };
    }

    private static String withOneOtherSign(Random random, String text) {
        int place = random.nextInt(text.length());
        return text.substring(0, place) + (char) (33 + random.nextInt(94)) + text.substring(place + 1);
    }
}

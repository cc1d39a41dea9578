import java.io.IOException;
import java.lang.reflect.Method;
import java.lang.reflect.Modifier;
import java.nio.file.Files;
import java.nio.file.Path;
import java.util.regex.Matcher;
import java.util.regex.Pattern;

/** README.md tells the answers of its calls, names every call of the face, and says how its tests are run. */
public final class ReadmeTest {
    private static final Due D = new Due();
    private static final Pattern CALL = Pattern.compile("(?m)^x\\.(\\w+)\\(([^()]*)\\); +// (-?\\d+|[A-Z_]+)\\b.*$");

    public static void main(String[] args) throws ReflectiveOperationException, IOException {
        String page = Files.readString(Path.of("README.md"));
        answers(page);
        for (Method method : LoafMemory.class.getDeclaredMethods()) {
            if (Modifier.isPublic(method.getModifiers())) {
                D.holds("README.md names " + method.getName(), page.contains("`" + method.getName() + "`"));
            }
        }
        D.holds("README.md says how the tests are run", page.contains("    bash .ci/run\n"));
        D.end();
    }

    private static void answers(String page) throws ReflectiveOperationException {
        LoafMemory x = new LoafMemory();
        int calls = 0;
        for (Matcher found = CALL.matcher(page); found.find(); calls++) {
            D.due(found.group(), answer(x, found.group(1), found.group(2)), number(found.group(3)));
        }
        D.due("calls that begin a line of README.md", page.split("\nx\\.", -1).length - 1, calls);
        D.holds("README.md shows calls", calls > 0);
    }

    private static int answer(LoafMemory x, String name, String arguments) throws ReflectiveOperationException {
        String[] texts = arguments.isEmpty() ? new String[0] : arguments.split(", ");
        for (Method method : LoafMemory.class.getDeclaredMethods()) {
            if (method.getName().equals(name) && method.getParameterCount() == texts.length) {
                Object[] values = new Object[texts.length];
                for (int i = 0; i < texts.length; i++) {
                    long value = Long.decode(texts[i].replaceAll("L$", ""));
                    values[i] = method.getParameterTypes()[i] == long.class ? (Object) value : (Object) (int) value;
                }
                return (Integer) method.invoke(x, values);
            }
        }
        D.holds("there is a method " + name + " with " + texts.length + " arguments", false);
        return 0;
    }

    private static int number(String told) throws ReflectiveOperationException {
        return Character.isUpperCase(told.charAt(0)) ? LoafMemory.class.getField(told).getInt(null) : Integer.parseInt(told);
    }
}

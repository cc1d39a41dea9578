import java.lang.reflect.Field;
import java.lang.reflect.Method;
import java.lang.reflect.Modifier;
import java.util.Map;
import java.util.TreeMap;
import java.util.TreeSet;

/** The public face: its constants, its constructor, its methods, and nothing else that is not private. */
public final class FaceTest {
    private static final Due D = new Due();
    private static final String METHODS = "set(int,int) put(int,int) poison(int,int) ask(int) forget(int) type(long) wipe() fault() recipe(int) "
        + "ofShelf(int,int) ofLoaf(int,int) ofMemory(int,int) look(int,int,int) count(int) fresh(int) fits(int) looksAt(int) changes(int,int) "
        + "numberFor(int,int,int) stepsFor(int) undo() save(int) restore(int)";

    public static void main(String[] args) throws IllegalAccessException {
        constants();
        methods();
        nothingElse();
        D.end();
    }

    private static void constants() throws IllegalAccessException {
        Map<String, Integer> due = new TreeMap<>(Map.of("NO_SUCH", -1, "BAD_VALUE", -2, "BAD_TEXT", -3, "TOO_MANY", -4, "NOT_POSSIBLE", -5,
            "NONE", -6, "POISON", 100, "ROOM", 0, "KEEP", 1));
        Map<String, Integer> found = new TreeMap<>();
        for (Field field : LoafMemory.class.getDeclaredFields()) {
            if (Modifier.isPublic(field.getModifiers())) {
                found.put(field.getName(), field.getInt(null));
                D.holds(field.getName() + " is a constant", Modifier.isStatic(field.getModifiers()) && Modifier.isFinal(field.getModifiers()));
            } else {
                D.holds(field.getName() + " is private", Modifier.isPrivate(field.getModifiers()));
            }
        }
        D.holds("the constants " + found, found.equals(due));
    }

    private static void methods() {
        TreeSet<String> due = new TreeSet<>(java.util.List.of(METHODS.split(" ")));
        TreeSet<String> open = new TreeSet<>();
        TreeSet<String> names = new TreeSet<>();
        for (Method method : LoafMemory.class.getDeclaredMethods()) {
            if (!Modifier.isPrivate(method.getModifiers())) {
                open.add(told(method));
                names.add(method.getName());
                D.holds(method.getName() + " returns int", method.getReturnType() == int.class);
                D.holds(method.getName() + " is public, not static", method.getModifiers() == Modifier.PUBLIC);
            }
        }
        D.holds("the methods " + open, open.equals(due));
        for (Class<?> inside : LoafMemory.class.getDeclaredClasses()) {
            D.holds(inside.getName() + " is static and not public", Modifier.isStatic(inside.getModifiers()) && !Modifier.isPublic(inside.getModifiers()));
            for (Method method : inside.getDeclaredMethods()) {
                D.holds(inside.getName() + "." + method.getName() + " bears no name of the face", !names.contains(method.getName()));
            }
        }
    }

    private static String told(Method method) {
        StringBuilder text = new StringBuilder(method.getName()).append('(');
        for (Class<?> type : method.getParameterTypes()) {
            text.append(text.charAt(text.length() - 1) == '(' ? "" : ",").append(type.getName());
        }
        return text.append(')').toString();
    }

    private static void nothingElse() {
        D.due("constructors", LoafMemory.class.getDeclaredConstructors().length, 1);
        D.holds("the constructor is public", Modifier.isPublic(LoafMemory.class.getDeclaredConstructors()[0].getModifiers()));
        D.due("its parameters", LoafMemory.class.getDeclaredConstructors()[0].getParameterCount(), 0);
        D.due("the class is public and final", LoafMemory.class.getModifiers(), Modifier.PUBLIC | Modifier.FINAL);
        D.holds("it extends nothing", LoafMemory.class.getSuperclass() == Object.class);
        D.due("it implements nothing", LoafMemory.class.getInterfaces().length, 0);
    }
}

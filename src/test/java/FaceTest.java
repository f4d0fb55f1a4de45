import java.lang.reflect.Constructor;
import java.lang.reflect.Field;
import java.lang.reflect.Method;
import java.lang.reflect.Modifier;
import java.util.Arrays;
import java.util.Map;
import java.util.Set;
import java.util.TreeMap;
import java.util.TreeSet;

/** The public face: the document's constants, constructor and methods, and nothing else that can be seen. */
public final class FaceTest {
    /** How many numbers each method takes. */
    private static final Map<String, Integer> METHODS = new TreeMap<>(Map.ofEntries(
            Map.entry("row", 3), Map.entry("set", 3), Map.entry("copy", 5), Map.entry("drop", 1), Map.entry("feed", 1),
            Map.entry("town", 0), Map.entry("fault", 0), Map.entry("days", 1), Map.entry("write", 2), Map.entry("deny", 2),
            Map.entry("spare", 2), Map.entry("undo", 0), Map.entry("reader", 2), Map.entry("deeds", 2), Map.entry("lines", 2),
            Map.entry("dead", 1), Map.entry("ends", 1), Map.entry("first", 1), Map.entry("toWrite", 3), Map.entry("toDeny", 2),
            Map.entry("print", 1), Map.entry("temper", 4), Map.entry("told", 5), Map.entry("odds", 3), Map.entry("image", 1),
            Map.entry("restore", 1), Map.entry("kind", 1), Map.entry("as", 2), Map.entry("ask", 2), Map.entry("trace", 1),
            Map.entry("count", 1), Map.entry("status", 0)));
    private static final Set<String> CONSTANTS = Set.of("NONE", "BAD", "STATE", "FULL");

    private static int wrong = 0;

    public static void main(String[] args) {
        int modifiers = NoticeWeek.class.getModifiers();
        require(Modifier.isPublic(modifiers) && Modifier.isFinal(modifiers), "the class is public and final");
        require(NoticeWeek.class.getPackageName().isEmpty(), "the class has no package");
        constants();
        constructors();
        methods();
        nestedClasses();
        System.out.println("FaceTest: " + wrong + " wrong");
        System.exit(wrong == 0 ? 0 : 1);
    }

    private static void constants() {
        require(NoticeWeek.NONE == -1000000, "NONE");
        require(NoticeWeek.BAD == -1000001, "BAD");
        require(NoticeWeek.STATE == -1000002, "STATE");
        require(NoticeWeek.FULL == -1000003, "FULL");
        for (Field field : NoticeWeek.class.getDeclaredFields()) {
            boolean seen = Modifier.isPublic(field.getModifiers()) && CONSTANTS.contains(field.getName());
            require(seen || Modifier.isPrivate(field.getModifiers()), "a field is private: " + field.getName());
            requireConstant(field);
        }
    }

    private static void constructors() {
        Constructor<?>[] all = NoticeWeek.class.getDeclaredConstructors();
        require(all.length == 1 && Modifier.isPublic(all[0].getModifiers()) && all[0].getParameterCount() == 0, "one constructor");
    }

    private static void methods() {
        Map<String, Integer> seen = new TreeMap<>();
        for (Method method : NoticeWeek.class.getDeclaredMethods()) {
            if (Modifier.isPublic(method.getModifiers())) {
                seen.put(method.getName(), method.getParameterCount());
                boolean ints = Arrays.stream(method.getParameterTypes()).allMatch(type -> type == int.class);
                require(ints && method.getReturnType() == int.class, "ints alone: " + method.getName());
                require(!Modifier.isStatic(method.getModifiers()), "not static: " + method.getName());
            } else {
                require(Modifier.isPrivate(method.getModifiers()), "private: " + method.getName());
                require(!METHODS.containsKey(method.getName()), "no private method has a public one's name: " + method.getName());
            }
        }
        require(seen.equals(METHODS), "the methods are the document's: " + seen);
    }

    private static void nestedClasses() {
        Class<?>[] nested = NoticeWeek.class.getDeclaredClasses();
        require(nested.length < 12, "at most some twelve classes");
        for (Class<?> one : nested) {
            int modifiers = one.getModifiers();
            require(Modifier.isStatic(modifiers), "static: " + one.getName());
            require(!Modifier.isPublic(modifiers) && !Modifier.isProtected(modifiers), "not seen: " + one.getName());
            require(one.getDeclaredFields().length <= 20, "some twenty fields: " + one.getName());
            for (Field field : one.getDeclaredFields()) {
                requireConstant(field);
            }
            Set<String> names = new TreeSet<>();
            for (Method method : one.getDeclaredMethods()) {
                names.add(method.getName());
                require(method.getParameterCount() <= 7, "at most seven parameters: " + method.getName());
            }
            names.retainAll(METHODS.keySet());
            require(names.isEmpty(), "no other method has a public one's name: " + names);
        }
    }

    private static void requireConstant(Field field) {
        int modifiers = field.getModifiers();
        require(!Modifier.isStatic(modifiers) || Modifier.isFinal(modifiers), "a static field is final: " + field.getName());
    }

    private static void require(boolean holds, String what) {
        if (!holds) {
            wrong++;
            System.out.println("not so: " + what);
        }
    }
}

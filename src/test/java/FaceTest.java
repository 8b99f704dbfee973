import java.lang.reflect.Constructor;
import java.lang.reflect.Field;
import java.lang.reflect.Member;
import java.lang.reflect.Method;
import java.lang.reflect.Modifier;
import java.util.List;
import java.util.Set;

/** The public face, and LANGUAGE.md's rule 1 on it. */
final class FaceTest {
    private static final List<String> CONSTANTS = List.of("TELLING", "ROW", "NUMBER", "WORD", "MANY",
            "DEEP", "SHAPE", "FULL", "EMPTY", "SORT", "WHOLE", "AMOUNT", "ZERO", "COUNT");
    private static final Set<String> METHODS = Set.of("feed", "cut", "tell", "drop", "make", "clear",
            "input", "call", "output", "fault");

    public static void main(String[] args) throws ReflectiveOperationException {
        Trial t = new Trial();
        Class<?> face = NumberFunctions.class;
        t.due("final", Modifier.isFinal(face.getModifiers()) ? 1 : 0, 1);
        t.due("NONE", NumberFunctions.NONE, -1);
        for (int i = 0; i < CONSTANTS.size(); i++) {
            t.due(CONSTANTS.get(i), face.getField(CONSTANTS.get(i)).getInt(null), i + 1);
        }
        int open = 0;
        for (Field field : face.getDeclaredFields()) {
            open += isOpen(field) ? 1 : 0;
            t.due("static but not final: " + field.getName(), isChangingStatic(field) ? 1 : 0, 0);
        }
        t.due("fields that are not private", open, CONSTANTS.size() + 1);
        open = 0;
        for (Method method : face.getDeclaredMethods()) {
            open += isOpen(method) ? 1 : 0;
            boolean named = METHODS.contains(method.getName());
            t.due("of the face: " + method, isOpen(method) ? 1 : 0, named ? 1 : 0);
        }
        t.due("methods that are not private", open, METHODS.size());
        Constructor<?>[] constructors = face.getDeclaredConstructors();
        t.due("constructors", constructors.length, 1);
        t.due("constructor is public", Modifier.isPublic(constructors[0].getModifiers()) ? 1 : 0, 1);
        t.end();
    }

    private static boolean isOpen(Member member) {
        return !Modifier.isPrivate(member.getModifiers()) && !member.isSynthetic();
    }

    private static boolean isChangingStatic(Field field) {
        return Modifier.isStatic(field.getModifiers()) && !Modifier.isFinal(field.getModifiers());
    }
}

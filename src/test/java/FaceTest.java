import java.lang.reflect.Constructor;
import java.lang.reflect.Field;
import java.lang.reflect.Method;
import java.lang.reflect.Modifier;
import java.util.Set;
import java.util.TreeSet;

/** The public face is the document's, and nothing else of the class is seen from outside. */
public final class FaceTest {
    private static final String[] FACE = {
        "int chain(int,int,int)", "int step(int,int,int,int,int)", "int back(int)", "int tune(int,int,int,int)",
        "int read(int,int)", "int has(int,int)", "int info(int,int,int)", "int load(int,int,int)",
        "int bound(int,int)", "int searched(int,int)", "int quick(int,int)", "int rounds()", "int worst(int,int,int)",
        "int meets()", "int margin(int,int)", "int better(int,int,int)", "int run(int)", "int seen(int,int,int)",
        "int tick(int,int)", "int sheet(int,int,int)", "int lose(int)", "int lay(int,int,int,int)",
        "long get(int,int,int)", "int copy(int,int,int,int,int)", "int write(int)", "int count(int)", "long digest()",
    };

    private static final Due due = new Due("FaceTest");

    public static void main(String[] args) {
        // The public face: "public static final int NONE = -1, BAD = -2, NOT = -3, FULL = -4;".
        due.is("NONE", OffsetChains.NONE, -1);
        due.is("BAD", OffsetChains.BAD, -2);
        due.is("NOT", OffsetChains.NOT, -3);
        due.is("FULL", OffsetChains.FULL, -4);
        // The public face: "public final class OffsetChains", each of its calls, and no other member that is not private.
        Set<String> face = new TreeSet<>(Set.of(FACE));
        Set<String> names = new TreeSet<>();
        for (Method method : OffsetChains.class.getDeclaredMethods()) {
            if (Modifier.isPublic(method.getModifiers())) {
                names.add(method.getName());
                due.is("public " + told(method), face.remove(told(method)) ? 1 : 0, 1);
            } else {
                due.is("private " + told(method), Modifier.isPrivate(method.getModifiers()) ? 1 : 0, 1);
            }
        }
        due.is("calls that are missing: " + face, face.size(), 0);
        for (Method method : OffsetChains.class.getDeclaredMethods()) {
            if (!Modifier.isPublic(method.getModifiers())) {
                due.is("a name of its own: " + told(method), names.contains(method.getName()) ? 1 : 0, 0);
            }
        }
        Set<String> constants = Set.of("NONE", "BAD", "NOT", "FULL");
        for (Field field : OffsetChains.class.getDeclaredFields()) {
            int modifiers = field.getModifiers();
            due.is("field " + field.getName(), Modifier.isPublic(modifiers) ? 1 : 0,
                    constants.contains(field.getName()) ? 1 : 0);
            boolean seenOrHidden = Modifier.isPublic(modifiers) || Modifier.isPrivate(modifiers);
            due.is("field " + field.getName(), seenOrHidden ? 1 : 0, 1);
            due.is("field " + field.getName(), Modifier.isStatic(modifiers) && !Modifier.isFinal(modifiers) ? 1 : 0, 0);
        }
        // The public face: "public OffsetChains();".
        Constructor<?>[] made = OffsetChains.class.getDeclaredConstructors();
        due.is("constructors", made.length, 1);
        due.is("its parameters", made[0].getParameterCount(), 0);
        due.is("public constructor", Modifier.isPublic(made[0].getModifiers()) ? 1 : 0, 1);
        due.is("final class", Modifier.isFinal(OffsetChains.class.getModifiers()) ? 1 : 0, 1);
        due.end();
    }

    private static String told(Method method) {
        StringBuilder text = new StringBuilder();
        text.append(method.getReturnType().getName()).append(' ').append(method.getName()).append('(');
        String comma = "";
        for (Class<?> type : method.getParameterTypes()) {
            text.append(comma).append(type.getName());
            comma = ",";
        }
        return text.append(')').toString();
    }
}

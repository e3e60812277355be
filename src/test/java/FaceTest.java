import java.lang.reflect.Constructor;
import java.lang.reflect.Field;
import java.lang.reflect.Method;
import java.lang.reflect.Modifier;
import java.util.Arrays;
import java.util.Set;
import java.util.TreeSet;

/** The class has the document's face, and no other member that can be seen. */
public final class FaceTest {
    private static final String[] FACE = {
        "int kind()", "int span(int, int, int, int)", "int seller()",
        "int feed(int, int, int, int, int)", "int contract(int, int, int)", "int force(int, int)",
        "int usual(int, int, int, int)", "int load(int, int, int, int)", "int told(int, int)",
        "int sample(int, int, int, int)", "int tons(int)", "int layers(int)",
        "int layer(int, int, int)", "int move(int, int, int)", "int mix(int)",
        "int asked(int, int, int)", "int best(int)", "int charge(int, int)", "int melt(int)",
        "int portions(int)", "int portion(int, int, int)", "int prove(int, int, int, int)",
        "long money(int)", "int day(int)", "int count(int)",
    };

    public static void main(String[] args) {
        Check.is("final", Modifier.isFinal(ScrapYard.class.getModifiers()) ? 1 : 0, 1);
        Check.is("NONE", ScrapYard.NONE, -1);
        Set<String> due = new TreeSet<>(Arrays.asList(FACE));
        Set<String> names = new TreeSet<>();
        Set<String> seen = new TreeSet<>();
        for (Method method : ScrapYard.class.getDeclaredMethods()) {
            if (!Modifier.isPrivate(method.getModifiers())) {
                seen.add(faceOf(method));
                names.add(method.getName());
            }
        }
        if (!seen.equals(due)) {
            Check.tell("methods are " + seen + ", due is " + due);
        }
        for (Method method : ScrapYard.class.getDeclaredMethods()) {
            if (Modifier.isPrivate(method.getModifiers()) && names.contains(method.getName())) {
                Check.tell("a private method has a public one's name: " + method);
            }
        }
        for (Field field : ScrapYard.class.getDeclaredFields()) {
            boolean isNone = field.getName().equals("NONE");
            Check.is(field + " is private", Modifier.isPrivate(field.getModifiers()) ? 1 : 0, isNone ? 0 : 1);
        }
        Constructor<?>[] made = ScrapYard.class.getDeclaredConstructors();
        Check.is("constructors", made.length, 1);
        Check.is("constructor's parameters", made[0].getParameterCount(), 0);
        Check.end();
    }

    private static String faceOf(Method method) {
        StringBuilder face = new StringBuilder();
        face.append(method.getReturnType().getName()).append(' ').append(method.getName()).append('(');
        for (Class<?> type : method.getParameterTypes()) {
            face.append(face.charAt(face.length() - 1) == '(' ? "" : ", ").append(type.getName());
        }
        return face.append(')').toString();
    }
}

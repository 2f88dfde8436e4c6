import java.lang.reflect.Constructor;
import java.lang.reflect.Field;
import java.lang.reflect.Method;
import java.lang.reflect.Modifier;
import java.util.Arrays;
import java.util.Set;
import java.util.TreeSet;

/** The public face is the document's, and nothing else of the class can be seen (LANGUAGE.md, rule 1). */
final class FaceTest {
    private static final String[] FACE = {
        "int addRule(int,int)", "int removeRule(int)", "int rules()", "int head(int)", "int body(int)",
        "int model()", "int derived(int)", "int fired(int)", "int level(int)", "int modelShareBits()",
        "int supports(int)", "int reason(int)", "int necessary(int)", "int dependencies(int)",
        "int cyclicAtoms()", "int overDeleted(int)", "int lost(int)", "int gained(int,int)",
        "int setAssumable(int)", "int explanation(int)", "int append(int)", "int clearText()", "int parse()",
        "int undo()", "int errorCount(int)", "long digest()"
    };
    private static final Set<String> CONSTANTS =
        Set.of("OUT_OF_RANGE", "NOT_DERIVED", "FULL", "NOTHING_SAVED", "NONE");

    public static void main(String[] args) {
        methods();
        fields();
        constructorsAndClass();
        Check.end();
    }

    private static void methods() {
        Set<String> seen = new TreeSet<>();
        Set<String> publicNames = new TreeSet<>();
        for (Method method : HornEngine.class.getDeclaredMethods()) {
            if (!Modifier.isPrivate(method.getModifiers())) {
                seen.add(signature(method));
                publicNames.add(method.getName());
                Check.holds(method + " is public", Modifier.isPublic(method.getModifiers()));
                Check.holds(method + " is no static", !Modifier.isStatic(method.getModifiers()));
            }
        }
        Check.holds("the methods are those of the document", seen.equals(new TreeSet<>(Arrays.asList(FACE))));
        for (Method method : HornEngine.class.getDeclaredMethods()) {
            if (Modifier.isPrivate(method.getModifiers())) {
                Check.holds(method + " has a name of its own", !publicNames.contains(method.getName()));
            }
        }
    }

    private static String signature(Method method) {
        StringBuilder written = new StringBuilder(method.getReturnType().getName());
        written.append(' ').append(method.getName()).append('(');
        for (int i = 0; i < method.getParameterCount(); i++) {
            written.append(i == 0 ? "" : ",").append(method.getParameterTypes()[i].getName());
        }
        return written.append(')').toString();
    }

    private static void fields() {
        Set<String> seen = new TreeSet<>();
        for (Field field : HornEngine.class.getDeclaredFields()) {
            int modifiers = field.getModifiers();
            if (!Modifier.isPrivate(modifiers)) {
                seen.add(field.getName());
                Check.holds(field + " is a public constant", Modifier.isPublic(modifiers)
                    && Modifier.isStatic(modifiers) && Modifier.isFinal(modifiers) && field.getType() == int.class);
            }
            Check.holds(field + " is no static state", !Modifier.isStatic(modifiers) || Modifier.isFinal(modifiers));
        }
        Check.holds("the constants are those of the document", seen.equals(new TreeSet<>(CONSTANTS)));
    }

    private static void constructorsAndClass() {
        Constructor<?>[] constructors = HornEngine.class.getDeclaredConstructors();
        Check.due("constructors", constructors.length, 1);
        Check.due("parameters of the constructor", constructors[0].getParameterCount(), 0);
        Check.holds("the constructor is public", Modifier.isPublic(constructors[0].getModifiers()));
        int modifiers = HornEngine.class.getModifiers();
        Check.holds("the class is public and final", Modifier.isPublic(modifiers) && Modifier.isFinal(modifiers));
        for (Class<?> inside : HornEngine.class.getDeclaredClasses()) {
            int seen = inside.getModifiers();
            Check.holds(inside + " is static and not public",
                Modifier.isStatic(seen) && !Modifier.isPublic(seen) && !Modifier.isProtected(seen));
        }
    }
}

import java.lang.reflect.Constructor;
import java.lang.reflect.Field;
import java.lang.reflect.Method;
import java.lang.reflect.Modifier;
import java.util.ArrayList;
import java.util.List;
import java.util.Set;
import java.util.TreeSet;

/** The public face is the document's, and nothing else of the class can be seen. */
public final class FaceTest {
    private static final String[] METHODS = {
        "int type(int)", "int clear()", "int piece()", "int section(int,int)", "int thing(int)", "int bar(int,int)",
        "int bars(int)", "int slips(int)", "int cue()", "int cuts(int)", "int waits(int)", "int undo()", "int now(int)",
        "int trim(int)", "int odds(int,int,int)", "int hears(int,int)", "int forget()", "int places(int)",
        "int listen()", "int pack(int)", "int mark(int,int)", "int keep(int)", "int back(int)", "int count(int)",
        "long trace()",
    };

    public static void main(String[] args) {
        Check check = new Check();
        check.due("BAD", TriangleRest.BAD, -1);
        check.due("STATE", TriangleRest.STATE, -2);
        check.due("FULL", TriangleRest.FULL, -3);
        check.due("NONE", TriangleRest.NONE, -9);
        check.due("NO", TriangleRest.NO, -1000000);
        Class<?> face = TriangleRest.class;
        check.holds("the class is public and final", (face.getModifiers() & 17) == 17);
        methods(check, face);
        constructors(check, face);
        fields(check, face);
        for (Class<?> inside : face.getDeclaredClasses()) {
            int how = inside.getModifiers();
            check.holds(inside + " is static", Modifier.isStatic(how));
            check.holds(inside + " is not public or protected", !Modifier.isPublic(how) && !Modifier.isProtected(how));
        }
        check.end();
    }

    private static void methods(Check check, Class<?> face) {
        Set<String> seen = new TreeSet<>();
        Set<String> names = new TreeSet<>();
        for (Method m : face.getDeclaredMethods()) {
            if (!Modifier.isPrivate(m.getModifiers())) {
                check.holds(m + " is public", Modifier.isPublic(m.getModifiers()));
                check.holds(m + " is not static", !Modifier.isStatic(m.getModifiers()));
                seen.add(told(m));
                names.add(m.getName());
            }
        }
        check.holds("the methods are those of the document: " + seen, seen.equals(new TreeSet<>(List.of(METHODS))));
        for (Method m : face.getDeclaredMethods()) {
            boolean hidden = Modifier.isPrivate(m.getModifiers());
            check.holds(m + " has a name of its own", !hidden || !names.contains(m.getName()));
        }
    }

    private static String told(Method m) {
        List<String> parameters = new ArrayList<>();
        for (Class<?> p : m.getParameterTypes()) {
            parameters.add(p.getName());
        }
        return m.getReturnType().getName() + " " + m.getName() + "(" + String.join(",", parameters) + ")";
    }

    private static void constructors(Check check, Class<?> face) {
        Constructor<?>[] all = face.getDeclaredConstructors();
        check.due("constructors", all.length, 1);
        check.holds("the constructor is public", Modifier.isPublic(all[0].getModifiers()));
        check.due("its parameters", all[0].getParameterCount(), 0);
    }

    private static void fields(Check check, Class<?> face) {
        Set<String> seen = new TreeSet<>();
        for (Field f : face.getDeclaredFields()) {
            if (!Modifier.isPrivate(f.getModifiers())) {
                seen.add(f.getName());
            }
        }
        check.holds("the constants are those of the document: " + seen,
            seen.equals(Set.of("BAD", "STATE", "FULL", "NONE", "NO")));
    }
}

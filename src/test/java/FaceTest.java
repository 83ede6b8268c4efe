import java.lang.reflect.Constructor;
import java.lang.reflect.Field;
import java.lang.reflect.Method;
import java.lang.reflect.Modifier;
import java.util.HashSet;
import java.util.Set;
import java.util.TreeSet;

/** The class has the document's face and nothing beside it (LANGUAGE.md, rule 1). */
public final class FaceTest {
    private static final String[] FACE = {
        "int sun(int,int)", "int chair(int)", "int now(int)", "int person(int)", "int of(int,int)",
        "int set(int,int,int)", "int turn(int,int)", "int as(int,int)", "int sit(int,int)",
        "int given(int,int)", "int hours(int)", "int on(int,int,int)", "int brown(int,int)",
        "int burns(int)", "int even(int)", "int where(int,int)", "int change(int,int)",
        "int kind(int,int)", "int send(int)", "int cloud(int)", "int enough(int,int,int,int)",
        "int brownest(int)", "int feed(int,int)", "int wipe()", "int esplanade()",
        "int sheet(int,int,int)", "long write(int,int,long)", "int copy(int,int,int,int,int)",
        "int lays(int)", "int book(int,int)", "int read(int,int,int)", "int image()", "int undo()",
        "int tear()", "int count(int)", "int status(int)"};

    public static void main(String[] args) {
        Checks.due("TanRow is public and final",
            TanRow.class.getModifiers() & (Modifier.PUBLIC | Modifier.FINAL), Modifier.PUBLIC | Modifier.FINAL);
        Constructor<?>[] made = TanRow.class.getDeclaredConstructors();
        Checks.due("one constructor", made.length, 1);
        Checks.due("it is public, without parameters",
            Modifier.isPublic(made[0].getModifiers()) && made[0].getParameterCount() == 0 ? 1 : 0, 1);
        methodsAreTheFace();
        for (Field f : TanRow.class.getDeclaredFields()) {
            Checks.due("field " + f.getName() + " is private", f.getModifiers() & Modifier.PRIVATE, Modifier.PRIVATE);
        }
        namesInsideAreOthers();
        Checks.end();
    }

    private static void methodsAreTheFace() {
        Set<String> seen = new TreeSet<>();
        for (Method m : TanRow.class.getDeclaredMethods()) {
            if (!Modifier.isPrivate(m.getModifiers())) {
                seen.add(spelt(m));
                Checks.due(m.getName() + " is public", m.getModifiers(), Modifier.PUBLIC);
            }
        }
        for (String s : FACE) {
            Checks.due(s + " is there", seen.remove(s) ? 1 : 0, 1);
        }
        Checks.due("methods beside the face " + seen, seen.size(), 0);
    }

    private static void namesInsideAreOthers() {
        Set<String> names = new HashSet<>();
        for (String s : FACE) {
            names.add(s.substring(s.indexOf(' ') + 1, s.indexOf('(')));
        }
        for (Method m : TanRow.class.getDeclaredMethods()) {
            boolean own = Modifier.isPrivate(m.getModifiers());
            Checks.due(m.getName() + " bears no public name", own && names.contains(m.getName()) ? 1 : 0, 0);
        }
        for (Class<?> c : TanRow.class.getDeclaredClasses()) {
            Checks.due(c.getName() + " is static", c.getModifiers() & Modifier.STATIC, Modifier.STATIC);
            for (Method m : c.getDeclaredMethods()) {
                Checks.due(m.getName() + " bears no public name", names.contains(m.getName()) ? 1 : 0, 0);
            }
        }
    }

    private static String spelt(Method m) {
        StringBuilder s = new StringBuilder(m.getReturnType().getName() + " " + m.getName() + "(");
        for (Class<?> c : m.getParameterTypes()) {
            s.append(s.charAt(s.length() - 1) == '(' ? "" : ",").append(c.getName());
        }
        return s.append(")").toString();
    }
}

import java.lang.reflect.Constructor;
import java.lang.reflect.Field;
import java.lang.reflect.Method;
import java.lang.reflect.Modifier;
import java.util.Arrays;
import java.util.Set;
import java.util.TreeSet;

/** The public face is the document's, and no more of it can be seen. */
public final class FaceTest {
    private static final String[] METHODS = {
        "int feed(int, int, int, int, int)", "boolean end(int)", "int text()", "int fault()", "int now(int)",
        "int tax(int)", "int income(int)", "int period(int, int)", "int unpaid(int, int)", "int free(int)",
        "int rate(int)", "int payment(int, int)",
        "int late(int, int) throws java.util.NoSuchElementException", "int moved(int, int)",
        "int were(int, int)", "int barring(int)", "int latest(int)", "int clears(int)", "int earn(int, int)",
        "int pay(int, int)", "int refund(int, int)", "int bar(int)", "int undo()"
    };

    public static void main(String[] args) throws Exception {
        Checks checks = new Checks();
        Class<?> desk = InstalmentDesk.class;
        checks.holds("the class is public and final", desk.getModifiers() == (Modifier.PUBLIC | Modifier.FINAL));

        Set<String> seen = new TreeSet<>();
        Set<String> names = new TreeSet<>();
        for (Method method : desk.getDeclaredMethods()) {
            if (!Modifier.isPrivate(method.getModifiers())) {
                checks.holds(method + " is public and no more", method.getModifiers() == Modifier.PUBLIC);
                seen.add(told(method));
                names.add(method.getName());
            }
        }
        checks.holds("the methods are the document's: " + seen, seen.equals(new TreeSet<>(Arrays.asList(METHODS))));
        for (Method method : desk.getDeclaredMethods()) {
            if (Modifier.isPrivate(method.getModifiers())) {
                checks.holds(method + " has a name of its own", !names.contains(method.getName()));
            }
        }

        for (Field field : desk.getDeclaredFields()) {
            boolean isNone = field.getName().equals("NONE");
            checks.holds(field + " is private, or NONE", isNone || Modifier.isPrivate(field.getModifiers()));
            boolean isStatic = Modifier.isStatic(field.getModifiers());
            checks.holds(field + " is final if static", !isStatic || Modifier.isFinal(field.getModifiers()));
        }
        Field none = desk.getField("NONE");
        checks.holds("NONE is a public constant",
            none.getModifiers() == (Modifier.PUBLIC | Modifier.STATIC | Modifier.FINAL) && none.getType() == int.class);
        checks.due("NONE", InstalmentDesk.NONE, -1);

        Constructor<?>[] constructors = desk.getDeclaredConstructors();
        checks.due("constructors", constructors.length, 1);
        checks.holds("the constructor is public, without parameters",
            Modifier.isPublic(constructors[0].getModifiers()) && constructors[0].getParameterCount() == 0);
        checks.close("FaceTest");
    }

    private static String told(Method method) {
        return method.toGenericString().replace("public ", "").replace("InstalmentDesk.", "").replace(",int", ", int");
    }
}

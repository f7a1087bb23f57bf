import java.lang.reflect.Constructor;
import java.lang.reflect.Field;
import java.lang.reflect.Method;
import java.lang.reflect.Modifier;
import java.util.Set;
import java.util.TreeSet;

/** The public face: the class, its constants and its signatures, and no other member than private ones. */
public final class FaceTest {
    private static final String[] METHODS = {
        "int fund(int)", "int give(int,int)", "int fundTold(int,int)", "int reader(int,int,int)",
        "int readerTold(int,int)", "int ask(int,int,int,int,int,int)", "int asks(int,int,int,int)",
        "int told(int,int)", "int feed(int,long)", "int text()", "int force(int)",
        "long says(int,int,int)", "int bar(int,int)", "int barred(int,int)", "int deal()",
        "int places()", "int mark(int,int,int)", "long worth(int,int)", "int fit(int,int)",
        "int choose(int)", "int grant(int,int,int,int,int)", "int proof(int,int)",
        "int due(int,int)", "int stop(int)", "int back(int,int)", "int count(int)",
        "int sheet(int,int,int)", "int cell(int,int,int)", "int taken(int,int)"
    };

    public static void main(String[] args) throws IllegalAccessException {
        Check check = new Check();
        Set<String> due = new TreeSet<>(Set.of(METHODS));
        Set<String> found = new TreeSet<>();
        Set<String> names = new TreeSet<>();
        for (Method m : GiftOffice.class.getDeclaredMethods()) {
            if (!Modifier.isPrivate(m.getModifiers())) {
                check.holds(m + " is public and not static", m.getModifiers() == Modifier.PUBLIC);
                found.add(signature(m));
                names.add(m.getName());
            }
        }
        check.holds("methods are " + due + " and not " + found, due.equals(found));
        checkPrivateNames(check, GiftOffice.class, names);
        for (Class<?> inside : GiftOffice.class.getDeclaredClasses()) {
            checkPrivateNames(check, inside, names);
        }
        checkConstants(check);
        Constructor<?>[] made = GiftOffice.class.getDeclaredConstructors();
        check.holds("one public constructor without parameters", made.length == 1
                && made[0].getModifiers() == Modifier.PUBLIC && made[0].getParameterCount() == 0);
        check.holds("the class is public and final",
                GiftOffice.class.getModifiers() == (Modifier.PUBLIC | Modifier.FINAL));
        check.end();
    }

    private static void checkPrivateNames(Check check, Class<?> of, Set<String> publicNames) {
        for (Method m : of.getDeclaredMethods()) {
            boolean ofTheFace = of == GiftOffice.class && Modifier.isPublic(m.getModifiers());
            check.holds(m + " bears no public name", ofTheFace || !publicNames.contains(m.getName()));
        }
    }

    private static void checkConstants(Check check) throws IllegalAccessException {
        Set<String> found = new TreeSet<>();
        for (Field f : GiftOffice.class.getDeclaredFields()) {
            if (!Modifier.isPrivate(f.getModifiers())) {
                check.holds(f + " is public static final", f.getModifiers()
                        == (Modifier.PUBLIC | Modifier.STATIC | Modifier.FINAL));
                found.add(f.getType() + " " + f.getName() + " " + f.get(null));
            }
        }
        Set<String> due = new TreeSet<>(Set.of("int NONE -1", "int BAD -2", "int STATE -3", "int FULL -4",
                "long NO -4611686018427387904"));
        check.holds("constants are " + due + " and not " + found, due.equals(found));
    }

    private static String signature(Method m) {
        StringBuilder parameters = new StringBuilder();
        for (Class<?> type : m.getParameterTypes()) {
            parameters.append(parameters.length() == 0 ? "" : ",").append(type.getName());
        }
        return m.getReturnType().getName() + " " + m.getName() + "(" + parameters + ")";
    }
}

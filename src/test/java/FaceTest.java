import java.lang.reflect.Constructor;
import java.lang.reflect.Field;
import java.lang.reflect.Method;
import java.lang.reflect.Modifier;
import java.util.ArrayList;
import java.util.Collections;
import java.util.List;

/** The public face is the document's, and nothing more can be seen from outside. */
public final class FaceTest {
    private static final String[] METHODS = {
        "int type(int)", "int clear()", "int ring()", "int order(int,int)", "int due(int,int)", "long now(int)",
        "long night()", "long swans(int,int)", "long melts(int,int)", "long pays(int)", "int undo()",
        "long all(int,int)", "int above(int)", "int least(int,int)", "int met()", "long left()",
        "int age(int)", "int first(int,int)", "int lay(int,int)", "int forget()", "int mayBe(int)",
        "int smelt(int,int)", "long odds(int,int)", "long barley(int,int)",
        "int rate(int,int)", "int keep(int)", "int back(int)", "int count(int)", "long trace()"};

    public static void main(String[] args) {
        Check.due("BAD", DripRings.BAD, -1);
        Check.due("STATE", DripRings.STATE, -2);
        Check.due("FULL", DripRings.FULL, -3);
        Check.due("NONE", DripRings.NONE, -9);
        Check.due("NO", DripRings.NO, -1000000);
        Check.holds("public and final", (DripRings.class.getModifiers() & (Modifier.PUBLIC | Modifier.FINAL))
            == (Modifier.PUBLIC | Modifier.FINAL));
        Check.holds("the methods as told", visibleMethods().equals(sorted(METHODS)));
        Check.holds("the constants as told",
            visibleFields().equals(sorted(new String[] {"BAD", "FULL", "NO", "NONE", "STATE"})));
        Constructor<?>[] made = DripRings.class.getDeclaredConstructors();
        Check.due("constructors", made.length, 1);
        Check.due("what it takes", made[0].getParameterCount(), 0);
        noMethodTwice();
        Check.end();
    }

    private static List<String> sorted(String[] names) {
        List<String> all = new ArrayList<>(List.of(names));
        Collections.sort(all);
        return all;
    }

    private static List<String> visibleMethods() {
        List<String> all = new ArrayList<>();
        for (Method m : DripRings.class.getDeclaredMethods()) {
            if (!Modifier.isPrivate(m.getModifiers()) && !m.isSynthetic()) {
                StringBuilder told = new StringBuilder(m.getReturnType().getName() + " " + m.getName() + "(");
                for (int i = 0; i < m.getParameterCount(); i++) {
                    told.append(i == 0 ? "" : ",").append(m.getParameterTypes()[i].getName());
                }
                all.add(told.append(")").toString());
            }
        }
        Collections.sort(all);
        return all;
    }

    private static List<String> visibleFields() {
        List<String> all = new ArrayList<>();
        for (Field f : DripRings.class.getDeclaredFields()) {
            if (!Modifier.isPrivate(f.getModifiers()) && !f.isSynthetic()) {
                all.add(f.getName());
            }
        }
        Collections.sort(all);
        return all;
    }

    private static void noMethodTwice() {
        List<String> names = new ArrayList<>();
        for (String told : METHODS) {
            names.add(told.substring(told.indexOf(' ') + 1, told.indexOf('(')));
        }
        for (Method m : DripRings.class.getDeclaredMethods()) {
            Check.holds(m.getName() + " is no private method with a public name",
                !Modifier.isPrivate(m.getModifiers()) || !names.contains(m.getName()));
        }
        for (Class<?> inside : DripRings.class.getDeclaredClasses()) {
            Check.holds(inside.getName() + " is static", Modifier.isStatic(inside.getModifiers()));
            for (Method m : inside.getDeclaredMethods()) {
                Check.holds(inside.getName() + "." + m.getName() + " is no name of the face",
                    !names.contains(m.getName()));
            }
        }
    }
}

import java.lang.reflect.Constructor;
import java.lang.reflect.Field;
import java.lang.reflect.Method;
import java.lang.reflect.Modifier;
import java.util.Arrays;
import java.util.Set;
import java.util.TreeSet;

/** The public face is that of the document, and rules 1, 5 and 11 of LANGUAGE.md that can be seen in the class. */
public final class FaceTest {
    private static final Due due = new Due("FaceTest");
    private static final String FACE = "alarm3 alarmed2 bulkhead2 call2 cancel1 count1 effect2 failure2 fault5 fuse2 guard5 "
        + "isOf2 joined2 kept3 level1 now0 of2 on1 order5 outcome1 plan7 planned2 second1 slow5 station3 stop1 tokens1 tower0 waiting2";

    public static void main(String[] args) {
        due.holds(Modifier.isFinal(WaterWorks.class.getModifiers()), "the class is final");
        due.holds(methods().equals(new TreeSet<>(Arrays.asList(FACE.split(" ")))), "the face: " + methods());
        constants();
        Constructor<?>[] made = WaterWorks.class.getDeclaredConstructors();
        due.holds(made.length == 1 && made[0].getParameterCount() == 0 && Modifier.isPublic(made[0].getModifiers()), "one constructor");
        insideClass(WaterWorks.class);
        for (Class<?> inside : WaterWorks.class.getDeclaredClasses()) {
            due.holds(Modifier.isStatic(inside.getModifiers()), inside + " is static");
            insideClass(inside);
        }
        due.holds(WaterWorks.class.getDeclaredClasses().length <= 12, "some twelve classes");
        due.done();
    }

    private static Set<String> methods() {
        Set<String> found = new TreeSet<>();
        for (Method m : WaterWorks.class.getDeclaredMethods()) {
            if (!Modifier.isPrivate(m.getModifiers())) {
                boolean ints = m.getReturnType() == int.class && Arrays.stream(m.getParameterTypes()).allMatch(t -> t == int.class);
                due.holds(ints && Modifier.isPublic(m.getModifiers()) && !Modifier.isStatic(m.getModifiers()), m + " is as told");
                found.add(m.getName() + m.getParameterCount());
            }
        }
        return found;
    }

    private static void constants() {
        due.are(Due.row(WaterWorks.NONE, WaterWorks.RANGE, WaterWorks.FULL, WaterWorks.STATE), Due.row(-1, -2, -3, -4), "constants");
        Set<String> found = new TreeSet<>();
        for (Field f : WaterWorks.class.getDeclaredFields()) {
            if (!Modifier.isPrivate(f.getModifiers())) {
                found.add(f.getName());
            }
        }
        due.holds(found.equals(new TreeSet<>(Arrays.asList("NONE", "RANGE", "FULL", "STATE"))), "no other fields: " + found);
    }

    private static void insideClass(Class<?> some) {
        int fields = 0;
        for (Field f : some.getDeclaredFields()) {
            boolean still = Modifier.isStatic(f.getModifiers());
            fields += still ? 0 : 1;
            due.holds(!still || Modifier.isFinal(f.getModifiers()), f + " is final if it is static");
        }
        due.holds(fields <= 22, some + " has some twenty fields: " + fields);
        for (Method m : some.getDeclaredMethods()) {
            due.holds(m.getParameterCount() <= 7, m + " takes at most seven");
            boolean face = FACE.matches("(.* )?" + m.getName() + "\\d( .*)?");
            due.holds(!face || some == WaterWorks.class && Modifier.isPublic(m.getModifiers()), m + " bears no public name");
        }
        for (Constructor<?> c : some.getDeclaredConstructors()) {
            due.holds(c.getParameterCount() <= 7, c + " takes at most seven");
        }
    }
}

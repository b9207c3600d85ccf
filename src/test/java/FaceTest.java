import java.lang.reflect.Constructor;
import java.lang.reflect.Field;
import java.lang.reflect.Method;
import java.lang.reflect.Modifier;
import java.util.Arrays;
import java.util.TreeSet;

/** The public face has the members that the document names, and no others. */
final class FaceTest {
    public static void main(String[] args) {
        Bench.says("The public face");
        TreeSet<String> found = new TreeSet<>();
        for (Method m : StowTongue.class.getDeclaredMethods()) {
            if (!Modifier.isPrivate(m.getModifiers()) && !m.isSynthetic()) {
                found.add(Modifier.toString(m.getModifiers()) + " " + m.getReturnType() + " "
                        + m.getName() + Arrays.toString(m.getParameterTypes()));
            }
        }
        for (Field f : StowTongue.class.getDeclaredFields()) {
            if (!Modifier.isPrivate(f.getModifiers()) && !f.isSynthetic()) {
                found.add(Modifier.toString(f.getModifiers()) + " " + f.getType() + " " + f.getName());
            }
        }
        for (Constructor<?> c : StowTongue.class.getDeclaredConstructors()) {
            found.add(Modifier.toString(c.getModifiers()) + " " + Arrays.toString(c.getParameterTypes()));
        }
        TreeSet<String> due = new TreeSet<>(Arrays.asList(
                "public int feed[int, int, int, int, int]", "public int end[int]",
                "public int run[int]", "public long value[]", "public int octet[int]",
                "public long root[]", "public int sync[]", "public int crash[int]",
                "public int sweep[]", "public int count[int]", "public []",
                "public static final int REFUSED", "public static final int NONE",
                "public static final int FULL"));
        Bench.due("the face", found.toString(), due.toString());
        Bench.due("the class", Modifier.toString(StowTongue.class.getModifiers()), "public final");
        Bench.due("REFUSED", StowTongue.REFUSED, -1);
        Bench.due("NONE", StowTongue.NONE, -2);
        Bench.due("FULL", StowTongue.FULL, -3);
        Bench.finish();
    }
}

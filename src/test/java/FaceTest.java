import java.lang.reflect.Constructor;
import java.lang.reflect.Field;
import java.lang.reflect.Method;
import java.lang.reflect.Modifier;
import java.util.Arrays;
import java.util.TreeSet;

/** The public face: the constant, the constructor and the 20 methods, and no other member that can be seen. */
public final class FaceTest {
    private static final String[] FACE = {
        "int profile(int)", "boolean shape(int,int,int,int)", "boolean base(int,int,int)", "boolean buy(int,int)",
        "int cast(int)", "int cut(int,int)", "boolean old(int)", "boolean crack(int)", "int bellOf(int,int)",
        "boolean span(int,int,int)", "int tuning(int)", "int tune(int)", "int tuningAt(int,int)", "int note(int)",
        "boolean ring(int)", "int ringWeight()", "int ringBell(int)", "boolean tower(int,int,int)",
        "boolean hang(int,int)", "int about(int)"
    };

    private static String told(Method m) {
        StringBuilder s = new StringBuilder(m.getReturnType().getName()).append(' ').append(m.getName()).append('(');
        Class<?>[] takes = m.getParameterTypes();
        for (int i = 0; i < takes.length; i++) {
            s.append(i == 0 ? "" : ",").append(takes[i].getName());
        }
        return s.append(')').toString();
    }

    public static void main(String[] args) throws Exception {
        Check c = new Check("face");
        TreeSet<String> due = new TreeSet<>(Arrays.asList(FACE));
        TreeSet<String> seen = new TreeSet<>();
        for (Method m : BellFoundry.class.getDeclaredMethods()) {
            if (!Modifier.isPrivate(m.getModifiers())) {
                seen.add(told(m));
                c.yes(m + " is public and not static",
                        Modifier.isPublic(m.getModifiers()) && !Modifier.isStatic(m.getModifiers()));
            }
        }
        c.yes("methods " + seen, seen.equals(due));
        int fields = 0;
        for (Field f : BellFoundry.class.getDeclaredFields()) {
            fields += Modifier.isPrivate(f.getModifiers()) ? 0 : 1;
        }
        c.due("fields that can be seen", fields, 1);
        Field none = BellFoundry.class.getDeclaredField("NONE");
        c.yes("NONE is a public constant", none.getType() == int.class
                && Modifier.isPublic(none.getModifiers()) && Modifier.isStatic(none.getModifiers())
                && Modifier.isFinal(none.getModifiers()));
        c.due("NONE", BellFoundry.NONE, -1);
        Constructor<?>[] made = BellFoundry.class.getDeclaredConstructors();
        c.due("constructors", made.length, 1);
        c.due("arguments of the constructor", made[0].getParameterCount(), 0);
        c.yes("the constructor is public", Modifier.isPublic(made[0].getModifiers()));
        c.yes("the class is public and final", Modifier.isPublic(BellFoundry.class.getModifiers())
                && Modifier.isFinal(BellFoundry.class.getModifiers()));
        c.end();
    }
}

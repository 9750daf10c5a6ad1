import java.lang.reflect.Constructor;
import java.lang.reflect.Field;
import java.lang.reflect.Method;
import java.lang.reflect.Modifier;
import java.util.ArrayList;
import java.util.Arrays;
import java.util.List;
import java.util.Set;
import java.util.TreeSet;

/** The class has the face of the document and nothing else that can be seen from outside (LANGUAGE.md, rules 1, 5 and 11). */
public final class FaceTest {
    private static final String[] FACE = {
        "int part(long, long)",
        "boolean put(int, long, long, int)",
        "int channel()",
        "boolean into(int, int, int)",
        "int copy(int, long, long, int)",
        "boolean hand(int, long, long)",
        "int carry(int)",
        "int told(int)",
        "int room(long, long, long, long)",
        "boolean member(int, int)",
        "int outside(int, int)",
        "int label(int, long, long)",
        "long labelAt(int, int)",
        "int array(int, int, int, long, long)",
        "boolean mirror(int)",
        "long at(int, int)",
    };

    public static void main(String[] args) {
        methods();
        constructorAndConstant();
        nestedClasses();
        Check.finish();
    }

    private static void methods() {
        Set<String> seen = new TreeSet<>();
        Set<String> openNames = new TreeSet<>();
        List<String> hiddenNames = new ArrayList<>();
        for (Method m : ChannelRooms.class.getDeclaredMethods()) {
            if (Modifier.isPrivate(m.getModifiers())) {
                hiddenNames.add(m.getName());
            } else {
                Check.isTrue(m + " is not plainly public", m.getModifiers() == Modifier.PUBLIC);
                seen.add(signature(m));
                openNames.add(m.getName());
            }
        }
        Check.isTrue("the face is " + seen, seen.equals(new TreeSet<>(Arrays.asList(FACE))));
        for (String name : hiddenNames) {
            Check.isTrue("the private method " + name + " bears a public name", !openNames.contains(name));
        }
    }

    private static String signature(Method m) {
        List<String> types = new ArrayList<>();
        for (Class<?> type : m.getParameterTypes()) {
            types.add(type.getName());
        }
        return m.getReturnType().getName() + " " + m.getName() + "(" + String.join(", ", types) + ")";
    }

    private static void constructorAndConstant() {
        Constructor<?>[] made = ChannelRooms.class.getDeclaredConstructors();
        Check.is(1, made.length);
        Check.is(Modifier.PUBLIC, made[0].getModifiers());
        Check.is(0, made[0].getParameterCount());
        Check.is(Modifier.PUBLIC | Modifier.FINAL, ChannelRooms.class.getModifiers());
        Check.is(-1, ChannelRooms.NONE);
        for (Field f : ChannelRooms.class.getDeclaredFields()) {
            boolean isNone = f.getName().equals("NONE");
            Check.isTrue(f + " can be seen", isNone || Modifier.isPrivate(f.getModifiers()));
            Check.isTrue(f + " is static and not final",
                    !Modifier.isStatic(f.getModifiers()) || Modifier.isFinal(f.getModifiers()));
        }
    }

    private static void nestedClasses() {
        Class<?>[] inside = ChannelRooms.class.getDeclaredClasses();
        Check.isTrue("too many classes", inside.length < 12);
        for (Class<?> c : inside) {
            Check.isTrue(c + " is not static", Modifier.isStatic(c.getModifiers()));
            Check.isTrue(c + " is open", !Modifier.isPublic(c.getModifiers()) && !Modifier.isProtected(c.getModifiers()));
        }
    }
}

import java.lang.reflect.Constructor;
import java.lang.reflect.Field;
import java.lang.reflect.Method;
import java.lang.reflect.Modifier;
import java.util.ArrayList;
import java.util.List;
import java.util.Set;
import java.util.TreeSet;

/** The class has the face of the document and nothing else that can be seen from outside (LANGUAGE.md, rules 1, 5 and 11). */
public final class FaceTest {
    /** The methods of the document's face in its own words; DocumentTest holds them against it. */
    static final String[] METHODS = {
        "int part(long w, long h) throws IllegalArgumentException",
        "boolean put(int part, long x, long y, int turn) throws IndexOutOfBoundsException, IllegalArgumentException",
        "int channel()",
        "boolean into(int channel, int part, int role) throws IndexOutOfBoundsException, IllegalArgumentException",
        "int copy(int master, long dx, long dy, int turn) throws IndexOutOfBoundsException, IllegalArgumentException",
        "boolean hand(int part, long x, long y) throws IndexOutOfBoundsException, IllegalArgumentException",
        "int carry(int master) throws IndexOutOfBoundsException",
        "int told(int k)",
        "int room(long x0, long y0, long x1, long y1) throws IllegalArgumentException",
        "boolean member(int room, int part) throws IndexOutOfBoundsException",
        "int outside(int room, int k) throws IndexOutOfBoundsException",
        "int label(int part, long w, long h) throws IndexOutOfBoundsException, IllegalArgumentException",
        "long labelAt(int part, int axis) throws IndexOutOfBoundsException, IllegalStateException",
        "int array(int channel, int columns, int rows, long dx, long dy)"
                + " throws IndexOutOfBoundsException, IllegalArgumentException",
        "boolean mirror(int channel) throws IndexOutOfBoundsException",
        "long at(int part, int what) throws IndexOutOfBoundsException",
    };

    public static void main(String[] args) {
        methods();
        constructorAndConstant();
        nestedClasses();
        Check.finish();
    }

    private static void methods() {
        Set<String> seen = new TreeSet<>();
        Set<String> openNames = new TreeSet<>();
        List<String> hiddenNames = new ArrayList<>();
        for (Method m : ChannelRooms.class.getDeclaredMethods()) {
            if (Modifier.isPrivate(m.getModifiers())) {
                hiddenNames.add(m.getName());
            } else {
                Check.isTrue(m + " is not plainly public", m.getModifiers() == Modifier.PUBLIC);
                seen.add(signature(m));
                openNames.add(m.getName());
            }
        }
        Check.isTrue("the face is " + seen, seen.equals(due()));
        for (String name : hiddenNames) {
            Check.isTrue("the private method " + name + " bears a public name", !openNames.contains(name));
        }
    }

    /** A compiled class does not tell the names of its parameters, so they are left out. */
    private static Set<String> due() {
        Set<String> due = new TreeSet<>();
        for (String method : METHODS) {
            due.add(method.replaceAll("(int|long) \\w+(?=[,)])", "$1"));
        }
        return due;
    }

    private static String signature(Method m) {
        String thrown = names(m.getExceptionTypes());
        return m.getReturnType().getName() + " " + m.getName() + "(" + names(m.getParameterTypes()) + ")"
                + (thrown.isEmpty() ? "" : " throws " + thrown);
    }

    private static String names(Class<?>[] types) {
        List<String> names = new ArrayList<>();
        for (Class<?> type : types) {
            names.add(type.getSimpleName());
        }
        return String.join(", ", names);
    }

    private static void constructorAndConstant() {
        Constructor<?>[] made = ChannelRooms.class.getDeclaredConstructors();
        Check.is(1, made.length);
        Check.is(Modifier.PUBLIC, made[0].getModifiers());
        Check.is(0, made[0].getParameterCount());
        Check.is(0, made[0].getExceptionTypes().length);
        Check.is(Modifier.PUBLIC | Modifier.FINAL, ChannelRooms.class.getModifiers());
        Check.is(-1, ChannelRooms.NONE);
        for (Field f : ChannelRooms.class.getDeclaredFields()) {
            boolean isNone = f.getName().equals("NONE");
            Check.isTrue(f + " can be seen", isNone || Modifier.isPrivate(f.getModifiers()));
            Check.isTrue(f + " is no public static final int", !isNone
                    || f.getModifiers() == (Modifier.PUBLIC | Modifier.STATIC | Modifier.FINAL) && f.getType() == int.class);
            Check.isTrue(f + " is static and not final",
                    !Modifier.isStatic(f.getModifiers()) || Modifier.isFinal(f.getModifiers()));
        }
    }

    private static void nestedClasses() {
        Class<?>[] inside = ChannelRooms.class.getDeclaredClasses();
        Check.isTrue("too many classes", inside.length < 12);
        for (Class<?> c : inside) {
            Check.isTrue(c + " is not static", Modifier.isStatic(c.getModifiers()));
            Check.isTrue(c + " is open", !Modifier.isPublic(c.getModifiers()) && !Modifier.isProtected(c.getModifiers()));
        }
    }
}

import java.lang.reflect.Constructor;
import java.lang.reflect.Field;
import java.lang.reflect.Member;
import java.lang.reflect.Method;
import java.lang.reflect.Modifier;
import java.util.Set;
import java.util.TreeSet;

/**
 * The public face: the document's constants, constructor and methods, and no member besides that is not private; and
 * what the rules 1 and 11 of LANGUAGE.md say of the classes.
 */
public final class FaceTest {
    private static final String[] CONSTANTS = {
        "WAITING 0", "RUNNING 1", "STOPPED 2", "UNDER_VOLTAGE 0", "OVER_VOLTAGE 1", "UNDER_FREQUENCY 2",
        "OVER_FREQUENCY 3", "CHANGE 4", "STARTED 100", "LOST_LOCK 101", "BY_CALL 102", "NONE -1",
    };
    private static final String[] METHODS = {
        "void setGrid(int,int) throws IllegalArgumentException",
        "int jump(int) throws IllegalArgumentException",
        "boolean connect(boolean)",
        "void setLoad(int,int,int) throws IllegalArgumentException",
        "void setLoop(int,int) throws IllegalArgumentException",
        "void setLock(int,int) throws IllegalArgumentException",
        "void setWindow(int,int,int,int) throws IllegalArgumentException",
        "void setPower(int,int,int) throws IllegalArgumentException",
        "void setDrift(int,int) throws IllegalArgumentException",
        "int addRule(int,int,int) throws IllegalArgumentException,IllegalStateException",
        "int clearRules()",
        "boolean start()",
        "boolean stop()",
        "int advance(int) throws IllegalArgumentException",
        "int state()",
        "boolean isLocked()",
        "int measure(int) throws IllegalArgumentException",
        "int violations(int) throws IndexOutOfBoundsException",
        "long energy()",
        "double availability()",
        "int events()",
        "int event(int,int) throws IllegalArgumentException",
        "int islandTime(int,int,int,int) throws IllegalArgumentException,IllegalStateException",
        "int undetected(int,int,int,int) throws IllegalArgumentException,IllegalStateException",
        "int relockTime(int,int) throws IllegalArgumentException",
        "void save(int) throws IllegalArgumentException",
        "void restore(int) throws IllegalArgumentException,IllegalStateException",
    };

    public static void main(String[] args) throws IllegalAccessException {
        Check.due("modifiers", Modifier.toString(GridInverter.class.getModifiers()), "public final");
        Check.due("constants", constants(), new TreeSet<>(Set.of(CONSTANTS)));
        Check.due("methods", methods(), new TreeSet<>(Set.of(METHODS)));
        Constructor<?>[] constructors = GridInverter.class.getDeclaredConstructors();
        Check.due("constructors", constructors.length, 1);
        Check.due("constructor", constructors[0].toString(), "public GridInverter()");
        classesInside();
        namesOfPrivateMethods();
        sizes(GridInverter.class);
        Check.end("FaceTest");
    }

    private static void classesInside() {
        Class<?>[] inside = GridInverter.class.getDeclaredClasses();
        Check.due("at most twelve classes", inside.length < 12, true);
        for (Class<?> one : inside) {
            int modifiers = one.getModifiers();
            Check.due(one.getName() + " is static", Modifier.isStatic(modifiers), true);
            boolean shown = Modifier.isPublic(modifiers) || Modifier.isProtected(modifiers);
            Check.due(one.getName() + " is public or protected", shown, false);
            sizes(one);
        }
    }

    private static void namesOfPrivateMethods() {
        Set<String> face = new TreeSet<>();
        for (Method method : GridInverter.class.getMethods()) {
            face.add(method.getName());
        }
        for (Method method : GridInverter.class.getDeclaredMethods()) {
            if (!isSeen(method)) {
                Check.due(method.getName() + " is a name of the face", face.contains(method.getName()), false);
            }
        }
    }

    private static void sizes(Class<?> one) {
        int fields = 0;
        for (Field field : one.getDeclaredFields()) {
            fields += Modifier.isStatic(field.getModifiers()) ? 0 : 1;
        }
        Check.due(one.getName() + " has at most twenty fields", fields <= 20, true);
        for (Method method : one.getDeclaredMethods()) {
            Check.due(method.getName() + " has at most seven parameters", method.getParameterCount() <= 7, true);
        }
    }

    private static boolean isSeen(Member member) {
        return !Modifier.isPrivate(member.getModifiers());
    }

    private static Set<String> constants() throws IllegalAccessException {
        Set<String> seen = new TreeSet<>();
        for (Field field : GridInverter.class.getDeclaredFields()) {
            if (isSeen(field)) {
                Check.due(field.getName(), Modifier.toString(field.getModifiers()), "public static final");
                seen.add(field.getName() + " " + field.getInt(null));
            }
        }
        return seen;
    }

    private static Set<String> methods() {
        Set<String> seen = new TreeSet<>();
        for (Method method : GridInverter.class.getDeclaredMethods()) {
            if (isSeen(method)) {
                Check.due(method.getName(), Modifier.toString(method.getModifiers()), "public");
                seen.add(method.toGenericString().replace("java.lang.", "").replace("GridInverter.", "")
                        .replace("public ", ""));
            }
        }
        return seen;
    }
}

import java.lang.reflect.Constructor;
import java.lang.reflect.Field;
import java.lang.reflect.Method;
import java.lang.reflect.Modifier;
import java.util.ArrayList;
import java.util.Arrays;
import java.util.Collections;
import java.util.List;

/** The public face, as the document gives it, and nothing beside it (rules 1 and 5 of LANGUAGE.md). */
public final class FaceTest {
    private static final String OF_CELL = "IndexOutOfBoundsException, IllegalArgumentException";
    private static final String OF_PLACE = OF_CELL + ", IllegalStateException";
    private static final String[] FACE = {
        "int setGround(int, int, int) throws " + OF_CELL,
        "int lay(int, int, int) throws " + OF_PLACE,
        "int setRiver(int, int) throws " + OF_CELL,
        "int addPump(int, int, int, int) throws " + OF_PLACE,
        "boolean run(int) throws IndexOutOfBoundsException",
        "int addGauge(int, int, int) throws " + OF_PLACE,
        "int addRefuge(int, int, int) throws " + OF_PLACE,
        "int settle(int, int, int) throws " + OF_PLACE,
        "int addCaller(int, int) throws IndexOutOfBoundsException, IllegalStateException",
        "int cell(int, int, int) throws IndexOutOfBoundsException",
        "int pump(int, int) throws IndexOutOfBoundsException",
        "int gauge(int, int) throws IndexOutOfBoundsException",
        "int refuge(int, int) throws IndexOutOfBoundsException",
        "int household(int, int) throws IndexOutOfBoundsException",
        "int caller(int, int) throws IndexOutOfBoundsException",
        "int count(int) throws IndexOutOfBoundsException",
        "int pass(int) throws IllegalArgumentException",
        "int foresee(int, int) throws IllegalArgumentException, IndexOutOfBoundsException",
        "int rings(int) throws IndexOutOfBoundsException",
        "int advise(int) throws IllegalArgumentException",
        "double share()",
        "long digest()",
    };

    public static void main(String[] args) {
        Class<?> c = FloodWardens.class;
        Due.same("modifiers", c.getModifiers(), Modifier.PUBLIC | Modifier.FINAL);
        Due.holds("it has no super class or interface", c.getSuperclass() == Object.class && c.getInterfaces().length == 0);
        Constructor<?>[] constructors = c.getDeclaredConstructors();
        Due.holds("there is one constructor, public, without arguments", constructors.length == 1
                && constructors[0].getModifiers() == Modifier.PUBLIC && constructors[0].getParameterCount() == 0);
        methods(c);
        for (Field field : c.getDeclaredFields()) {
            Due.holds(field + " is private", Modifier.isPrivate(field.getModifiers()));
        }
        for (Class<?> inside : c.getDeclaredClasses()) {
            int modifiers = inside.getModifiers();
            Due.holds(inside + " is static and not public or protected",
                    Modifier.isStatic(modifiers) && !Modifier.isPublic(modifiers) && !Modifier.isProtected(modifiers));
        }
        fields(c);
        Due.end();
    }

    private static void methods(Class<?> c) {
        List<String> open = new ArrayList<>();
        List<String> names = new ArrayList<>();
        List<String> hidden = new ArrayList<>();
        for (Method method : c.getDeclaredMethods()) {
            if (Modifier.isPrivate(method.getModifiers())) {
                hidden.add(method.getName());
            } else {
                open.add((method.getModifiers() == Modifier.PUBLIC ? "" : "not just public: ") + told(method));
                names.add(method.getName());
            }
        }
        List<String> due = new ArrayList<>(Arrays.asList(FACE));
        Collections.sort(due);
        Collections.sort(open);
        Due.holds("the face is " + due + ", and not " + open, open.equals(due));
        Due.holds("no private method bears the name of a public one", Collections.disjoint(names, hidden));
    }

    private static String told(Method method) {
        return method.getReturnType().getSimpleName() + " " + method.getName()
                + "(" + simpleNames(method.getParameterTypes()) + ")"
                + (method.getExceptionTypes().length == 0 ? "" : " throws " + simpleNames(method.getExceptionTypes()));
    }

    private static String simpleNames(Class<?>[] types) {
        List<String> names = new ArrayList<>();
        for (Class<?> type : types) {
            names.add(type.getSimpleName());
        }
        return String.join(", ", names);
    }

    private static void fields(Class<?> c) {
        List<Class<?>> classes = new ArrayList<>(Arrays.asList(c.getDeclaredClasses()));
        Due.holds("there are some twelve classes at most", classes.size() < 12);
        classes.add(c);
        for (Class<?> each : classes) {
            int own = 0;
            for (Field field : each.getDeclaredFields()) {
                if (Modifier.isStatic(field.getModifiers())) {
                    Due.holds(field + " is final", Modifier.isFinal(field.getModifiers()));
                } else {
                    own++;
                }
            }
            Due.holds(each + " has some twenty fields at most", own <= 20);
        }
    }
}

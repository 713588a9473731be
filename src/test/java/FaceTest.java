import java.lang.management.ManagementFactory;
import java.lang.reflect.Constructor;
import java.lang.reflect.Field;
import java.lang.reflect.Method;
import java.lang.reflect.Modifier;
import java.util.ArrayList;
import java.util.Arrays;
import java.util.List;
import java.util.TreeSet;

/** The face of the class is that of the document, no more and no less; and calls make no objects. */
public final class FaceTest {
    private static final Check check = new Check();
    private static final String BOUNDS = " IndexOutOfBoundsException";
    private static final String ARGUMENT = " IllegalArgumentException";
    private static final String STATE = " IllegalStateException";

    private static final String[] FACE = {
        "int feed(int,int,int,int,int)" + STATE, "int trim(int)" + ARGUMENT, "int teach()", "int errorAt()",
        "int columns()", "int rows()", "int kettles()", "int clippers()", "boolean hasCustoms(int,int)" + BOUNDS,
        "boolean hasSteam(int,int)" + BOUNDS, "int aromaAt(int,int)" + BOUNDS, "int becalmedFor(int)" + BOUNDS,
        "int visitsTo(int)" + BOUNDS, "int windDirection()", "int windForce()", "int hour()",
        "int columnOf(int)" + BOUNDS, "int rowOf(int)" + BOUNDS, "boolean isHome(int)" + BOUNDS,
        "int leafOf(int)" + BOUNDS, "int wayOf(int)" + BOUNDS, "int speedOf(int)" + BOUNDS,
        "int pointsOf(int)" + BOUNDS, "int sipsOf(int)" + BOUNDS, "int smells(int,int)" + BOUNDS,
        "int ruleTells(int)" + BOUNDS, "boolean wouldStay(int)" + BOUNDS, "int steersTo(int)" + BOUNDS + STATE,
        "int leader()" + STATE, "int setWind(int,int)" + BOUNDS + ARGUMENT,
        "int jettison(int,int)" + BOUNDS + ARGUMENT + STATE, "int calmKettle(int,int)" + BOUNDS + ARGUMENT,
        "int sail(int)" + ARGUMENT, "int pointsBehind(int,int)" + BOUNDS + ARGUMENT,
        "int hoursUntilPoints(int)" + BOUNDS, "int bestWind(int,int)" + BOUNDS + ARGUMENT, "double meanPoints()",
        "long digest()",
    };

    public static void main(String[] args) {
        check.sentence("LANGUAGE.md 1: the public constructor, methods and constants of the document and no other",
            FaceTest::face);
        check.sentence("LANGUAGE.md 2 and 11: static nested classes, at most some twelve", FaceTest::classesInside);
        check.sentence("LANGUAGE.md 12: What a run makes is counted: keep it small", FaceTest::callsMakeNothing);
        check.end();
    }

    private static void face() {
        check.due("the class", Modifier.PUBLIC | Modifier.FINAL, TeaRegatta.class::getModifiers);
        TreeSet<String> open = new TreeSet<>();
        TreeSet<String> closed = new TreeSet<>();
        for (Method method : TeaRegatta.class.getDeclaredMethods()) {
            if (Modifier.isPrivate(method.getModifiers())) {
                closed.add(method.getName());
            } else {
                open.add(told(method));
                check.due("modifiers of " + method, Modifier.PUBLIC, method::getModifiers);
            }
        }
        check.due("the methods", new TreeSet<>(Arrays.asList(FACE)), () -> open);
        for (String method : FACE) {
            String name = method.substring(method.indexOf(' ') + 1, method.indexOf('('));
            check.due("a private " + name, false, () -> closed.contains(name));
        }
        for (Field field : TeaRegatta.class.getDeclaredFields()) {
            check.due("private " + field, true, () -> Modifier.isPrivate(field.getModifiers()));
        }
        Constructor<?>[] constructors = TeaRegatta.class.getDeclaredConstructors();
        check.due("constructors", 1, () -> constructors.length);
        check.due("the constructor", "public TeaRegatta()", constructors[0]::toString);
    }

    private static String told(Method method) {
        StringBuilder told = new StringBuilder(method.getReturnType().getName() + " " + method.getName() + "(");
        List<String> types = new ArrayList<>();
        for (Class<?> type : method.getParameterTypes()) {
            types.add(type.getName());
        }
        told.append(String.join(",", types)).append(')');
        for (Class<?> type : method.getExceptionTypes()) {
            told.append(' ').append(type.getSimpleName());
        }
        return told.toString();
    }

    private static void classesInside() {
        Class<?>[] inside = TeaRegatta.class.getDeclaredClasses();
        check.due("classes", true, () -> inside.length <= 12);
        for (Class<?> one : inside) {
            int modifiers = one.getModifiers();
            check.due("static " + one, true, () -> Modifier.isStatic(modifiers));
            check.due("not open " + one, false, () -> Modifier.isPublic(modifiers) || Modifier.isProtected(modifiers));
        }
    }

    /** All runs share one room of objects: the dearest calls may not add to it. */
    private static void callsMakeNothing() {
        TeaRegatta x = new TeaRegatta();
        String book = "bay 12,12;kettle 5,5 steams 30;kettle 1,1 steams 9;customs 3,3;"
            + "clipper a home 4,4 noses 4 steers if leaf>9 then (if north>south then 0 else 2) else best;"
            + "clipper b home 8,8 noses 4 steers least(north+east*-2,most(hour,not force));";
        everyCall(x, book);
        long before = bytesMade();
        bytesMade();
        long asking = bytesMade() - before;
        long start = bytesMade();
        for (int times = 0; times < 9; times++) {
            everyCall(x, book);
        }
        long made = bytesMade() - start - asking;
        check.due("bytes that calls make: " + made, true, () -> made < 9_000);
    }

    private static void everyCall(TeaRegatta x, String book) {
        Books.teach(x, book);
        x.setWind(1, 2);
        x.sail(60);
        x.calmKettle(0, 3);
        for (int clipper = 0; clipper < x.clippers(); clipper++) {
            x.bestWind(clipper, 60);
            x.pointsBehind(clipper, 60);
            x.hoursUntilPoints(clipper);
            x.ruleTells(clipper);
            x.wouldStay(clipper);
            x.smells(clipper, 2);
        }
        x.digest();
        x.leader();
        x.meanPoints();
    }

    private static long bytesMade() {
        com.sun.management.ThreadMXBean threads =
            (com.sun.management.ThreadMXBean) ManagementFactory.getThreadMXBean();
        return threads.getThreadAllocatedBytes(Thread.currentThread().getId());
    }
}

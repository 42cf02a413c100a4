import java.io.IOException;
import java.lang.management.ManagementFactory;
import java.lang.reflect.Array;
import java.lang.reflect.Constructor;
import java.lang.reflect.Field;
import java.lang.reflect.Method;
import java.lang.reflect.Modifier;
import java.nio.file.Files;
import java.nio.file.Path;
import java.util.ArrayDeque;
import java.util.Arrays;
import java.util.Collections;
import java.util.Deque;
import java.util.IdentityHashMap;
import java.util.List;
import java.util.Set;
import java.util.TreeSet;

/** The public face is the document's and no more, and what objects and calls make stays small. */
public final class FaceTest {
    private static final String SOURCE = "src/main/java/GutterSeats.java";
    private static final List<String> FACE = List.of(
        "int feed(int, int, int, int, int)", "int tower(int) throws IllegalArgumentException", "int fault()",
        "int count(int) throws NoSuchElementException", "int gargoyle(int, int) throws NoSuchElementException",
        "int person(int, int) throws NoSuchElementException", "int years(int)",
        "int cut(int, int, int) throws NoSuchElementException", "int call(int) throws NoSuchElementException",
        "boolean lift(int, int) throws NoSuchElementException", "int leave(int, int) throws NoSuchElementException",
        "int undo()", "int then(int, int, int) throws NoSuchElementException, IllegalArgumentException",
        "int where(int, int, int) throws NoSuchElementException, IllegalArgumentException",
        "int loaf(int) throws NoSuchElementException",
        "int later(int, int) throws NoSuchElementException, IllegalArgumentException",
        "int sat(int, int) throws NoSuchElementException, IllegalArgumentException",
        "int fits(int, int) throws NoSuchElementException",
        "int unlike(int, int, int) throws NoSuchElementException", "int seats(int) throws NoSuchElementException",
        "int turn(int) throws NoSuchElementException", "int lasts(int, int) throws NoSuchElementException",
        "int best(int, int, int) throws NoSuchElementException, IllegalArgumentException",
        "int greatest(int, int) throws NoSuchElementException, IllegalArgumentException",
        "int empty(int) throws IllegalArgumentException", "int homes()",
        "int see(int, int, int) throws NoSuchElementException", "int old(int) throws NoSuchElementException",
        "int look(int) throws NoSuchElementException", "void forget()",
        "int wet(int, int, int) throws NoSuchElementException, IllegalArgumentException",
        "int game(int, int, int) throws NoSuchElementException, IllegalArgumentException",
        "int ages(int, int, int) throws NoSuchElementException, IllegalArgumentException", "void image()",
        "boolean restore()");
    private static final String[] FORBIDDEN = {"->", "::", "finally", "synchronized", "assert ", "Exact", "catch",
        "try ", "getMessage", "hashCode", "toString", "ordinal", "static {", "System.out", "Random", "volatile"};

    public static void main(String[] args) throws Exception {
        face();
        nested();
        source();
        madeByConstructor();
        madeByCalls();
        Check.end();
    }

    private static void face() throws Exception {
        Check.is("the class is public and final", Modifier.isPublic(GutterSeats.class.getModifiers())
            && Modifier.isFinal(GutterSeats.class.getModifiers()));
        Set<String> got = new TreeSet<>();
        Set<String> names = new TreeSet<>();
        for (Method method : GutterSeats.class.getDeclaredMethods()) {
            if (!Modifier.isPrivate(method.getModifiers())) {
                Check.is(method.getName() + " is public", Modifier.isPublic(method.getModifiers()));
                String types = Arrays.toString(method.getParameterTypes());
                got.add(method.getReturnType() + " " + method.getName() + "("
                    + types.substring(1, types.length() - 1) + ")" + thrown(method));
                names.add(method.getName());
            }
        }
        Check.is("the methods " + got, got.equals(new TreeSet<>(FACE)));
        for (Method method : GutterSeats.class.getDeclaredMethods()) {
            Check.is("private " + method.getName() + " bears no public name",
                !Modifier.isPrivate(method.getModifiers()) || !names.contains(method.getName()));
        }
        Constructor<?>[] constructors = GutterSeats.class.getDeclaredConstructors();
        Check.is("one public constructor without parameters", constructors.length == 1
            && Modifier.isPublic(constructors[0].getModifiers()) && constructors[0].getParameterCount() == 0);
        for (Field field : GutterSeats.class.getDeclaredFields()) {
            Check.is("field " + field.getName(), Modifier.isPrivate(field.getModifiers())
                || field.getName().equals("NONE") && Modifier.isPublic(field.getModifiers()));
            Check.is("static and final " + field.getName(), !Modifier.isStatic(field.getModifiers())
                || Modifier.isFinal(field.getModifiers()));
        }
    }

    private static String thrown(Method method) {
        StringBuilder names = new StringBuilder();
        for (Class<?> type : method.getExceptionTypes()) {
            names.append(names.length() == 0 ? " throws " : ", ").append(type.getSimpleName());
        }
        return names.toString();
    }

    private static void nested() {
        Class<?>[] inside = GutterSeats.class.getDeclaredClasses();
        Check.is("at most some twelve classes", inside.length < 12);
        for (Class<?> one : inside) {
            Check.is(one.getSimpleName() + " is static and private", Modifier.isStatic(one.getModifiers())
                && Modifier.isPrivate(one.getModifiers()));
            int fields = 0;
            for (Field field : one.getDeclaredFields()) {
                boolean isStatic = Modifier.isStatic(field.getModifiers());
                fields += isStatic ? 0 : 1;
                Check.is("static and final " + field.getName(), !isStatic || Modifier.isFinal(field.getModifiers()));
            }
            Check.is(one.getSimpleName() + " has at most twenty fields", fields <= 20);
        }
    }

    /** A coarse look: words that the language's rules leave out stand nowhere in the code. */
    private static void source() throws IOException {
        String text = Files.readString(Path.of(SOURCE));
        for (String word : FORBIDDEN) {
            Check.is("no " + word + " in the source", !text.contains(word));
        }
        for (String line : text.split("\n")) {
            Check.is("an import that may be: " + line, !line.startsWith("import")
                || line.equals("import java.util.Arrays;") || line.equals("import java.util.NoSuchElementException;"));
        }
    }

    /** All that hangs on a new object: objects and arrays, fields and elements. */
    private static void madeByConstructor() throws Exception {
        Set<Object> met = Collections.newSetFromMap(new IdentityHashMap<>());
        Deque<Object> open = new ArrayDeque<>(List.of(new GutterSeats()));
        int cells = 0;
        while (!open.isEmpty()) {
            Object one = open.pop();
            if (!met.add(one)) {
                continue;
            }
            if (one.getClass().isArray()) {
                cells += Array.getLength(one);
                continue;
            }
            for (Field field : one.getClass().getDeclaredFields()) {
                if (!Modifier.isStatic(field.getModifiers())) {
                    field.setAccessible(true);
                    cells++;
                    Object value = field.get(one);
                    if (!field.getType().isPrimitive() && value != null) {
                        open.push(value);
                    }
                }
            }
        }
        System.out.println("a new object: " + met.size() + " objects and arrays, " + cells + " fields and elements");
        Check.is("few objects", met.size() < 100);
        Check.is("few elements", cells < 14000);
    }

    private static void madeByCalls() {
        GutterSeats x = Check.told("gargoyle 1 1 50;gargoyle 5 5 60;person 1 2 3 of 1;person 5 5 38;"
            + "wears rain+1;sits unlike<3 or age=9;");
        callAll(x);
        com.sun.management.ThreadMXBean threads = (com.sun.management.ThreadMXBean) ManagementFactory.getThreadMXBean();
        long before = threads.getCurrentThreadAllocatedBytes();
        callAll(x);
        long made = threads.getCurrentThreadAllocatedBytes() - before;
        System.out.println("calls that don't throw made " + made + " bytes");
        Check.is("calls that don't throw make nothing", made < 2000);
    }

    private static void callAll(GutterSeats x) {
        for (int i = 0; i < 10; i++) {
            x.years(1);
            x.cut(0, 1, 1);
            x.call(0);
            x.lift(0, 0);
            x.leave(0, i % 2);
            x.undo();
            x.then(0, 9, 0);
            x.where(0, 9, 4);
            x.loaf(0);
            x.later(9, 0);
            x.sat(0, 9);
            x.fits(0, 0);
            x.seats(1);
            x.turn(0);
            x.lasts(0, 1);
            x.best(0, 9, 0);
            x.greatest(9, 0);
            x.empty(9);
            x.see(0, 3, 1);
            x.old(0);
            x.look(0);
            x.wet(0, 5, 3);
            x.game(0, 1, 0);
            x.ages(5, 20, 1);
            x.image();
            x.restore();
            x.forget();
            x.feed(0x72616969, 0, 0, 0, 0);
        }
        x.tower(5);
    }
}

import java.lang.reflect.InvocationTargetException;
import java.lang.reflect.Method;
import java.lang.reflect.Modifier;
import java.nio.charset.StandardCharsets;
import java.util.ArrayList;
import java.util.Arrays;
import java.util.Comparator;
import java.util.List;

/** Every call of the face with every choice of numbers at a bound, on the class and on Model: both
    must answer and throw alike, and count alike what they refuse. */
public final class EdgesTest {
    private static final int[] NUMBERS = {Integer.MIN_VALUE, -2, -1, 0, 1, 2, 3, 5, 6, 8, 9, 10, 11, 15, 16, 20, 21,
        60, 61, Integer.MAX_VALUE};
    private static final int CALLS = 200;
    private static final String[] TOWERS = {
        "",
        "gargoyle 5 4 20;gargoyle 0 9 50;gargoyle 9 0 0;rain 2 0 3;certain 40;person 4 4 38 of 0;"
            + "orphan 1 9 12 of 1;person 9 9 70;sits unlike<4;",
        "gargoyle 3 3 30;person 1 2 28 of 0;person 8 8 98;certain 30;wears year+1;",
        "orphan 1 2 3;person 3 2 1;",
        "gargoyle 1 1 9;gargoyle 2 1 9;"};

    private GutterSeats seats;
    private Model model;
    private int called;

    public static void main(String[] args) {
        for (String tower : TOWERS) {
            for (Method method : face()) {
                new EdgesTest().holdAll(tower, method);
            }
        }
        Check.end();
    }

    private static List<Method> face() {
        List<Method> face = new ArrayList<>();
        for (Method method : GutterSeats.class.getDeclaredMethods()) {
            if (Modifier.isPublic(method.getModifiers()) && !method.getName().equals("feed")) {
                face.add(method);
            }
        }
        face.sort(Comparator.comparing(Method::getName));
        return face;
    }

    private void holdAll(String tower, Method method) {
        int choices = (int) Math.pow(NUMBERS.length, method.getParameterCount());
        for (int choice = 0; choice < choices; choice++) {
            if (choice % CALLS == 0) {
                begin(tower);
            }
            Object[] values = new Object[method.getParameterCount()];
            int rest = choice;
            for (int i = values.length - 1; i >= 0; i--) {
                values[i] = NUMBERS[rest % NUMBERS.length];
                rest /= NUMBERS.length;
            }
            hold(tower, method, values);
        }
    }

    /** With an act, something that is seen and an image, and with bytes on the tape. */
    private void begin(String tower) {
        seats = new GutterSeats();
        model = new Model();
        byte[] bytes = tower.getBytes(StandardCharsets.ISO_8859_1);
        for (int from = 0; from < bytes.length; from += 20) {
            int[] w = Check.words(bytes, from);
            seats.feed(w[0], w[1], w[2], w[3], w[4]);
            model.feed(w[0], w[1], w[2], w[3], w[4]);
        }
        Check.same("both read " + tower, seats.tower(bytes.length), model.tower(bytes.length));
        seats.years(2);
        model.years(2);
        if (seats.count(1) > 0) {
            seats.see(0, 1, seats.person(0, 0));
            model.see(0, 1, seats.person(0, 0));
        }
        seats.image();
        model.image();
        seats.feed(0x7261696e, 0x20343b20, 0x20202020, 0x20202020, 0x20202020);
        model.feed(0x7261696e, 0x20343b20, 0x20202020, 0x20202020, 0x20202020);
        called = 0;
    }

    private void hold(String tower, Method method, Object[] values) {
        String call = method.getName() + Arrays.toString(values) + ", call " + called + " of " + tower;
        called++;
        try {
            Method other = Model.class.getMethod(method.getName(), method.getParameterTypes());
            Object got = answer(method, seats, values);
            Object due = answer(other, model, values);
            Check.is(call + " answered " + got + ", due is " + due, String.valueOf(got).equals(String.valueOf(due)));
        } catch (NoSuchMethodException e) {
            Check.is("Model has " + method.getName(), false);
        }
        int what = 10 + called % 6;
        Check.same(call + ", count " + what, seats.count(what), model.count(what));
    }

    private static Object answer(Method method, Object of, Object[] values) {
        try {
            return method.invoke(of, values);
        } catch (InvocationTargetException e) {
            return "throws." + e.getCause().getClass().getSimpleName();
        } catch (IllegalAccessException e) {
            return "no access";
        }
    }
}

import java.lang.reflect.InvocationTargetException;
import java.lang.reflect.Method;
import java.lang.reflect.Modifier;
import java.nio.charset.StandardCharsets;
import java.util.ArrayList;
import java.util.Arrays;
import java.util.Comparator;
import java.util.List;
import java.util.Random;

/** Long runs of drawn calls on the class and on Model: both must answer and throw alike. */
public final class ModelTest {
    private static final int RUNS = 1500;
    private static final int CALLS = 120;

    private final Random random;
    private final RandomTexts texts;
    private final GutterSeats seats = new GutterSeats();
    private final Model model = new Model();
    private final List<String> calls = new ArrayList<>();
    private boolean wrong = false;

    private ModelTest(long seed) {
        random = new Random(seed);
        texts = new RandomTexts(random);
    }

    public static void main(String[] args) {
        int runs = args.length > 0 ? Integer.parseInt(args[0]) : RUNS;
        int firstSeed = args.length > 1 ? Integer.parseInt(args[1]) : 1;
        List<Method> face = new ArrayList<>();
        for (Method method : GutterSeats.class.getDeclaredMethods()) {
            if (Modifier.isPublic(method.getModifiers())) {
                face.add(method);
            }
        }
        face.sort(Comparator.comparing(Method::getName));
        for (int run = 0; run < runs; run++) {
            ModelTest test = new ModelTest(firstSeed + run);
            Check.is("run of seed " + (firstSeed + run), test.runs(face));
        }
        Check.end();
    }

    private boolean runs(List<Method> face) {
        tellText();
        for (int i = 0; i < CALLS && !wrong; i++) {
            if (random.nextInt(60) == 0) {
                tellText();
            } else {
                callBoth(face.get(random.nextInt(face.size())));
            }
        }
        if (wrong) {
            System.out.println(String.join("\n", calls));
        }
        return !wrong;
    }

    private void tellText() {
        String text = switch (random.nextInt(12)) {
            case 0, 1, 2 -> texts.changed(texts.tower());
            case 3 -> texts.deep();
            case 4 -> texts.crowded();
            default -> texts.tower();
        };
        calls.add("text: " + text);
        byte[] bytes = text.getBytes(StandardCharsets.ISO_8859_1);
        for (int from = 0; from < bytes.length; from += 20) {
            int[] w = Check.words(bytes, from);
            hold("feed", seats.feed(w[0], w[1], w[2], w[3], w[4]), model.feed(w[0], w[1], w[2], w[3], w[4]));
        }
        int length = Math.min(bytes.length, seats.count(12));
        hold("tower(" + length + ")", seats.tower(length), model.tower(length));
        hold("fault()", seats.fault(), model.fault());
    }

    private void callBoth(Method method) {
        Object[] values = new Object[method.getParameterCount()];
        for (int i = 0; i < values.length; i++) {
            values[i] = number(method.getName(), i);
        }
        String call = method.getName() + Arrays.toString(values);
        try {
            Method other = Model.class.getMethod(method.getName(), method.getParameterTypes());
            hold(call, answer(method, seats, values), answer(other, model, values));
        } catch (NoSuchMethodException e) {
            hold(call, "the face has it", "the model has not");
        }
    }

    private Integer number(String name, int place) {
        int drawn = random.nextInt(20);
        if (name.equals("ages") && place == 0) {
            return random.nextInt();
        }
        boolean isLong = place == 1 && List.of("then", "where", "sat", "best", "ages").contains(name)
            || place == 0 && List.of("later", "greatest", "empty", "years").contains(name);
        if (isLong && drawn < 12) {
            return random.nextInt(62);
        }
        if (drawn == 0) {
            return random.nextInt(3) == 0 ? random.nextInt() : random.nextInt(25) - 3;
        }
        return drawn < 12 ? random.nextInt(4) : random.nextInt(10) - (drawn == 19 ? 1 : 0);
    }

    private static Object answer(Method method, Object of, Object[] values) {
        try {
            return method.invoke(of, values);
        } catch (InvocationTargetException e) {
            return "throws." + e.getCause().getClass().getSimpleName();
        } catch (IllegalAccessException e) {
            return "no access";
        }
    }

    private void hold(String call, Object got, Object due) {
        calls.add(call + " answered " + got);
        if (!String.valueOf(got).equals(String.valueOf(due))) {
            calls.add("  due is " + due);
            wrong = true;
        }
    }
}

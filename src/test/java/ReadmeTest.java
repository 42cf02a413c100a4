import java.io.IOException;
import java.lang.reflect.InvocationTargetException;
import java.lang.reflect.Method;
import java.lang.reflect.Modifier;
import java.nio.file.Files;
import java.nio.file.Path;
import java.util.Arrays;
import java.util.List;
import java.util.NoSuchElementException;
import java.util.Set;
import java.util.TreeSet;
import java.util.regex.Matcher;
import java.util.regex.Pattern;

/** README.md's rows answer what stands behind them, and its table of throws is the face's. */
public final class ReadmeTest {
    private static final Pattern CALL = Pattern.compile("seats\\.(\\w+)\\(([^)]*)\\);(?: +// (.*))?");
    private static final Pattern TELL = Pattern.compile("tell\\(seats, (.*)\\); +// (.*)");
    private static final Pattern LETTERS = Pattern.compile("\"([^\"]*)\"");
    private static final Pattern NAME = Pattern.compile("`(\\w+)`");

    private final Set<String> called = new TreeSet<>();
    private GutterSeats seats;

    public static void main(String[] args) throws Exception {
        String page = Files.readString(Path.of("README.md"));
        ReadmeTest test = new ReadmeTest();
        test.rows(page);
        table(page);
        Check.end();
    }

    private void rows(String page) throws Exception {
        // a string that goes on in the next line is one row
        for (String row : page.replaceAll("\n +\\+ ", " + ").split("\n")) {
            Matcher call = CALL.matcher(row);
            Matcher tell = TELL.matcher(row);
            if (row.equals("GutterSeats seats = new GutterSeats();")) {
                seats = new GutterSeats();
            } else if (tell.matches()) {
                Check.is(row, due(tell.group(2)).equals(String.valueOf(Check.tell(seats, text(tell.group(1))))));
            } else if (call.matches()) {
                String got = answer(method(call.group(1)), numbers(call.group(2)));
                Check.is(row + " answered " + got, due(call.group(3)).equals(got));
                called.add(call.group(1));
            } else {
                Check.is("a row that isn't run: " + row, !row.startsWith("seats.") && !row.startsWith("tell("));
            }
        }
        for (Method method : GutterSeats.class.getDeclaredMethods()) {
            boolean isOfFace = Modifier.isPublic(method.getModifiers()) && !method.getName().equals("feed");
            Check.is(method.getName() + " stands in a row", !isOfFace || called.contains(method.getName()));
        }
    }

    /** What stands ahead of the colon; nothing for a call that answers nothing. */
    private static String due(String told) {
        return told == null ? "null" : told.replaceFirst(":.*", "");
    }

    private static String text(String parts) {
        StringBuilder all = new StringBuilder();
        Matcher letters = LETTERS.matcher(parts);
        while (letters.find()) {
            all.append(letters.group(1));
        }
        return all.toString();
    }

    private static Object[] numbers(String list) {
        if (list.isEmpty()) {
            return new Object[0];
        }
        return Arrays.stream(list.split(", "))
            .map(one -> one.equals("GutterSeats.NONE") ? GutterSeats.NONE : Integer.parseInt(one)).toArray();
    }

    private static Method method(String name) {
        for (Method method : GutterSeats.class.getDeclaredMethods()) {
            if (method.getName().equals(name) && Modifier.isPublic(method.getModifiers())) {
                return method;
            }
        }
        throw new IllegalStateException("no call " + name);
    }

    private String answer(Method method, Object[] numbers) throws Exception {
        try {
            return String.valueOf(method.invoke(seats, numbers));
        } catch (InvocationTargetException e) {
            return "throws " + e.getCause().getClass().getSimpleName();
        }
    }

    private static void table(String page) throws IOException {
        Set<String> told = new TreeSet<>();
        String rows = page.substring(page.indexOf("| calls |"), page.indexOf("## Tests"));
        for (String row : rows.split("\n")) {
            String[] cells = row.split(" *\\| *");
            Matcher name = NAME.matcher(cells.length == 4 ? cells[1] : "");
            while (name.find()) {
                List<Class<?>> thrown = Arrays.asList(method(name.group(1)).getExceptionTypes());
                Check.is(name.group(1) + " stands once in the table", told.add(name.group(1)));
                Check.is(name.group(1) + " and NoSuchElementException",
                    thrown.contains(NoSuchElementException.class) != cells[2].equals("never"));
                Check.is(name.group(1) + " and IllegalArgumentException",
                    thrown.contains(IllegalArgumentException.class) != cells[3].equals("never"));
            }
        }
        for (Method method : GutterSeats.class.getDeclaredMethods()) {
            Check.is(method.getName() + " stands in the table",
                !Modifier.isPublic(method.getModifiers()) || told.contains(method.getName()));
        }
    }
}

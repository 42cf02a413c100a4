import java.util.ArrayDeque;
import java.util.ArrayList;
import java.util.Arrays;
import java.util.Deque;
import java.util.List;
import java.util.NoSuchElementException;
import java.util.Set;
import java.util.TreeSet;
import java.util.function.ToIntFunction;

/** The document written down a second time, in other ways (tokens cut first, trees, lists, every
    year from the start again, all rows of seats tried), for ModelTest to hold the class against. */
final class Model {
    private static final int NONE = -1;

    static final class Stone {
        int jaw, brow, stone;

        Stone(int jaw, int brow, int stone) {
            this.jaw = stone == 0 ? 0 : jaw;
            this.brow = stone == 0 ? 0 : brow;
            this.stone = stone;
        }

        Stone(Stone o) {
            this(o.jaw, o.brow, o.stone);
        }

        void wear(int by) {
            stone -= Math.min(stone, by);
            if (stone == 0) {
                jaw = brow = 0;
            }
        }
    }

    static final class Human {
        int jaw, brow, age;
        boolean orphan;
        Integer family, seat;

        Human copy() {
            Human h = new Human();
            h.jaw = jaw;
            h.brow = brow;
            h.age = age;
            h.orphan = orphan;
            h.family = family;
            h.seat = seat;
            return h;
        }
    }

    interface Tree {
        int eval(ToIntFunction<String> values);
    }

    static final class World {
        List<Stone> stones = new ArrayList<>();
        List<Human> humans = new ArrayList<>();
        List<Integer> rain = new ArrayList<>();
        int certain = 30;
        int year = 0;
        int sitDowns = 0;
        Tree wears, sits;

        World copy() {
            World w = new World();
            for (Stone s : stones) {
                w.stones.add(new Stone(s));
            }
            for (Human h : humans) {
                w.humans.add(h.copy());
            }
            w.rain = rain;
            w.certain = certain;
            w.year = year;
            w.wears = wears;
            w.sits = sits;
            return w;
        }

        int rainNow() {
            return rain.isEmpty() ? 3 : rain.get(year % rain.size());
        }

        Integer sitter(int g) {
            for (int p = 0; p < humans.size(); p++) {
                if (humans.get(p).seat != null && humans.get(p).seat == g) {
                    return p;
                }
            }
            return null;
        }

        int diff(Human h, Stone s) {
            return Math.abs(h.jaw - s.jaw) + Math.abs(h.brow - s.brow);
        }

        World go(int n) {
            for (int i = 0; i < n; i++) {
                step(rainNow());
            }
            return this;
        }

        void step(int rainOfYear) {
            int n = stones.size();
            for (int g = 0; g < n; g++) {
                Stone s = stones.get(g);
                if (s.stone == 0 || sitter(g) != null) {
                    continue;
                }
                int by = rainOfYear;
                if (wears != null) {
                    int around = stones.get((g + n - 1) % n).stone + stones.get((g + 1) % n).stone;
                    by = wears.eval(v -> switch (v) {
                        case "rain" -> rainOfYear;
                        case "stone" -> s.stone;
                        case "beside" -> around;
                        default -> year;
                    });
                    by = by < 0 ? 0 : by > 20 ? 20 : by;
                }
                s.wear(by);
            }
            for (Human h : humans) {
                if (h.age < 99) {
                    h.age++;
                }
                if (h.age >= certain && !h.orphan && h.family != null) {
                    Stone s = stones.get(h.family);
                    h.jaw += Integer.signum(s.jaw - h.jaw);
                    h.brow += Integer.signum(s.brow - h.brow);
                }
            }
            for (Human h : humans) {
                if (h.seat != null) {
                    if (!likes(h, h.seat)) {
                        h.seat = null;
                    }
                } else {
                    Integer g = nearest(h, true);
                    if (g != null && likes(h, g)) {
                        h.seat = g;
                        sitDowns++;
                    }
                }
            }
            year++;
        }

        Integer nearest(Human h, boolean onlyFree) {
            Integer found = null;
            for (int d = 0; d <= 18 && found == null; d++) {
                for (int g = 0; g < stones.size() && found == null; g++) {
                    if (diff(h, stones.get(g)) == d && !(onlyFree && sitter(g) != null)) {
                        found = g;
                    }
                }
            }
            return found;
        }

        boolean likes(Human h, int g) {
            Stone s = stones.get(g);
            if (sits == null) {
                return diff(h, s) < 3;
            }
            return sits.eval(v -> switch (v) {
                case "unlike" -> diff(h, s);
                case "age" -> h.age;
                case "stone" -> s.stone;
                case "family" -> h.family != null && h.family == g ? 1 : 0;
                default -> year;
            }) > 0;
        }

        int total() {
            return stones.stream().mapToInt(s -> s.stone).sum();
        }

        long loaves() {
            return stones.stream().filter(s -> s.stone == 0).count();
        }

        int sitting() {
            int bits = 0;
            for (int p = 0; p < humans.size(); p++) {
                bits += humans.get(p).seat != null ? 1 << p : 0;
            }
            return bits;
        }

        void liftAnyway(int p, int g) {
            for (Human h : humans) {
                if (h.seat != null && h.seat == g) {
                    h.seat = null;
                }
            }
            humans.get(p).seat = g;
        }
    }

    /** A fault of the text: its code and its place. */
    static final class Fault extends RuntimeException {
        private static final long serialVersionUID = 1L;
        final int code, at;

        Fault(int code, int at) {
            this.code = code;
            this.at = at;
        }
    }

    /** Reads by cutting the text into tokens first; a token is a text, "" the end. */
    static final class Script {
        final List<String> tokens = new ArrayList<>();
        final List<Integer> places = new ArrayList<>();
        final World world = new World();
        boolean certainTold;
        int i = 0;

        Script(String text) {
            int k = 0;
            while (k < text.length()) {
                char c = text.charAt(k);
                int e = k + 1;
                if (c == ' ' || c == '\n') {
                    k++;
                    continue;
                }
                String row = c >= 'a' && c <= 'z' ? "abcdefghijklmnopqrstuvwxyz"
                    : c >= '0' && c <= '9' ? "0123456789" : "";
                while (e < text.length() && row.indexOf(text.charAt(e)) >= 0) {
                    e++;
                }
                tokens.add(text.substring(k, e));
                places.add(k);
                k = e;
            }
            tokens.add("");
            places.add(text.length());
        }

        String now() {
            return tokens.get(i);
        }

        boolean at(String... any) {
            return Arrays.asList(any).contains(now());
        }

        Fault fault(int code) {
            return new Fault(code, places.get(i));
        }

        boolean atWord() {
            return !now().isEmpty() && now().charAt(0) >= 'a' && now().charAt(0) <= 'z';
        }

        boolean atNumber() {
            return !now().isEmpty() && now().charAt(0) >= '0' && now().charAt(0) <= '9';
        }

        int number(int most) {
            if (!atNumber()) {
                throw fault(1);
            }
            if (now().length() > 4 || Integer.parseInt(now()) > most) {
                throw fault(2);
            }
            return Integer.parseInt(tokens.get(i++));
        }

        World read() {
            while (!now().isEmpty()) {
                line();
                if (!at(";")) {
                    throw fault(1);
                }
                i++;
            }
            return world;
        }

        void line() {
            switch (now()) {
                case "gargoyle" -> {
                    if (world.stones.size() == 8) {
                        throw fault(2);
                    }
                    i++;
                    int jaw = number(9);
                    int brow = number(9);
                    world.stones.add(new Stone(jaw, brow, number(99)));
                }
                case "person", "orphan" -> human();
                case "rain" -> {
                    if (!world.rain.isEmpty()) {
                        throw fault(5);
                    }
                    i++;
                    do {
                        if (world.rain.size() == 8) {
                            throw fault(2);
                        }
                        world.rain.add(number(9));
                    } while (atNumber());
                }
                case "certain" -> {
                    if (certainTold) {
                        throw fault(5);
                    }
                    certainTold = true;
                    i++;
                    world.certain = number(99);
                }
                case "wears" -> {
                    if (world.wears != null) {
                        throw fault(5);
                    }
                    i++;
                    world.wears = expr(0, Set.of("rain", "stone", "beside", "year"));
                }
                case "sits" -> {
                    if (world.sits != null) {
                        throw fault(5);
                    }
                    i++;
                    world.sits = expr(0, Set.of("unlike", "age", "stone", "family", "year"));
                }
                default -> throw fault(1);
            }
        }

        void human() {
            if (world.humans.size() == 8) {
                throw fault(2);
            }
            Human h = new Human();
            h.orphan = at("orphan");
            i++;
            h.jaw = number(9);
            h.brow = number(9);
            h.age = number(99);
            if (at("of")) {
                i++;
                if (atNumber() && now().length() <= 4 && Integer.parseInt(now()) >= world.stones.size()) {
                    throw fault(3);
                }
                h.family = number(9999);
            }
            world.humans.add(h);
        }

        Tree expr(int others, Set<String> values) {
            if (others == 6) {
                throw fault(atNumber() || atWord() || at("(") ? 2 : 1);
            }
            Tree left = and(others, values);
            while (at("or")) {
                i++;
                Tree a = left, b = and(others, values);
                left = v -> a.eval(v) != 0 | b.eval(v) != 0 ? 1 : 0;
            }
            return left;
        }

        Tree and(int others, Set<String> values) {
            Tree left = not(others, values, 0);
            while (at("and")) {
                i++;
                Tree a = left, b = not(others, values, 0);
                left = v -> a.eval(v) != 0 & b.eval(v) != 0 ? 1 : 0;
            }
            return left;
        }

        Tree not(int others, Set<String> values, int nots) {
            if (at("not")) {
                if (nots == 6) {
                    throw fault(2);
                }
                i++;
                Tree a = not(others, values, nots + 1);
                return v -> a.eval(v) == 0 ? 1 : 0;
            }
            Tree a = sum(others, values);
            if (at("<", "=")) {
                boolean less = at("<");
                i++;
                Tree b = sum(others, values);
                return v -> (less ? a.eval(v) < b.eval(v) : a.eval(v) == b.eval(v)) ? 1 : 0;
            }
            return a;
        }

        Tree sum(int others, Set<String> values) {
            Tree left = product(others, values);
            while (at("+", "-")) {
                int sign = at("+") ? 1 : -1;
                i++;
                Tree a = left, b = product(others, values);
                left = v -> a.eval(v) + sign * b.eval(v);
            }
            return left;
        }

        Tree product(int others, Set<String> values) {
            Tree left = part(others, values);
            while (at("*", "/")) {
                boolean times = at("*");
                i++;
                Tree a = left, b = part(others, values);
                left = v -> {
                    long x = a.eval(v), y = b.eval(v);
                    return (int) (times ? x * y : y == 0 ? 0 : x / y);
                };
            }
            return left;
        }

        Tree part(int others, Set<String> values) {
            if (atNumber()) {
                int n = number(9999);
                return v -> n;
            }
            if (at("(")) {
                i++;
                Tree inner = expr(others + 1, values);
                if (!at(")")) {
                    throw fault(1);
                }
                i++;
                return inner;
            }
            if (!atWord()) {
                throw fault(1);
            }
            if (!values.contains(now())) {
                throw fault(3);
            }
            String name = tokens.get(i++);
            return v -> v.applyAsInt(name);
        }
    }

    record Sight(int person, int years, int jaw) { }

    record Image(World world, List<World> acts, List<Sight> seen, int[] status) { }

    private final StringBuilder tape = new StringBuilder();
    private World w = new World();
    private Deque<World> acts = new ArrayDeque<>();
    private List<Sight> seen = new ArrayList<>();
    private int[] status = new int[3];
    private int faultAt = NONE;
    private Image image;

    private Stone stone(int g) {
        if (g < 0 || g >= w.stones.size()) {
            throw new NoSuchElementException();
        }
        return w.stones.get(g);
    }

    private Human human(int p) {
        if (p < 0 || p >= w.humans.size()) {
            throw new NoSuchElementException();
        }
        return w.humans.get(p);
    }

    private static void what(int what, int most) {
        if (what < 0 || what > most) {
            throw new NoSuchElementException();
        }
    }

    private static void range(int n, int from, int to) {
        if (n < from || n > to) {
            throw new IllegalArgumentException();
        }
    }

    private static int orNone(Integer n) {
        return n == null ? NONE : n;
    }

    private int refuse(int which, int answer) {
        status[which]++;
        return answer;
    }

    private void act() {
        acts.addLast(w.copy());
        if (acts.size() > 40) {
            acts.removeFirst();
        }
    }

    public int feed(int a, int b, int c, int d, int e) {
        if (tape.length() > 680) {
            return NONE;
        }
        for (int n : new int[] {a, b, c, d, e}) {
            tape.append((char) (n >>> 24)).append((char) (n >>> 16 & 255));
            tape.append((char) (n >>> 8 & 255)).append((char) (n & 255));
        }
        return tape.length();
    }

    public int tower(int n) {
        range(n, 0, tape.length());
        String text = tape.substring(0, n);
        tape.setLength(0);
        try {
            w = new Script(text).read();
        } catch (Fault f) {
            faultAt = f.at;
            status[0]++;
            return f.code;
        }
        faultAt = NONE;
        acts.clear();
        seen.clear();
        image = null;
        return 0;
    }

    public int fault() {
        return faultAt;
    }

    public int count(int what) {
        what(what, 15);
        return switch (what) {
            case 0 -> w.stones.size();
            case 1 -> w.humans.size();
            case 2 -> w.year;
            case 3 -> w.rainNow();
            case 4 -> w.certain;
            case 5 -> (int) w.loaves();
            case 6 -> w.sitting();
            case 7 -> w.total();
            case 8 -> twins();
            case 9 -> longest();
            case 10 -> acts.size();
            case 11 -> seen.size();
            case 12 -> tape.length();
            default -> status[what - 13];
        };
    }

    private int twins() {
        int n = 0;
        for (Human a : w.humans) {
            for (Human b : w.humans) {
                n += a != b && a.jaw == b.jaw && a.brow == b.brow ? 1 : 0;
            }
        }
        return n / 2;
    }

    private int longest() {
        int n = w.stones.size();
        for (int length = n; length > 0; length--) {
            for (int from = 0; from < n; from++) {
                boolean all = true;
                for (int k = 0; k < length; k++) {
                    all &= w.stones.get((from + k) % n).stone == 0;
                }
                if (all) {
                    return length;
                }
            }
        }
        return 0;
    }

    public int gargoyle(int gargoyle, int what) {
        Stone s = stone(gargoyle);
        what(what, 4);
        int family = 0;
        for (int p = 0; p < w.humans.size(); p++) {
            Human h = w.humans.get(p);
            family |= h.family != null && h.family == gargoyle ? 1 << p : 0;
        }
        return new int[] {s.jaw, s.brow, s.stone, orNone(w.sitter(gargoyle)), family}[what];
    }

    public int person(int person, int what) {
        Human h = human(person);
        what(what, 5);
        return new int[] {h.jaw, h.brow, h.age, orNone(h.family), orNone(h.seat), h.orphan ? 1 : 0}[what];
    }

    public int years(int many) {
        if (many < 1 || many > 20 || w.year + many > 999) {
            return refuse(1, NONE);
        }
        act();
        return w.go(many).year;
    }

    public int cut(int gargoyle, int jaw, int brow) {
        stone(gargoyle);
        if (jaw < 0 || jaw > 9 || brow < 0 || brow > 9) {
            return refuse(1, NONE);
        }
        act();
        int was = stone(gargoyle).stone;
        w.stones.set(gargoyle, new Stone(jaw, brow, 99));
        return was;
    }

    public int call(int person) {
        Human h = human(person);
        if (h.seat == null) {
            return refuse(1, NONE);
        }
        act();
        int was = h.seat;
        h.seat = null;
        return was;
    }

    public boolean lift(int person, int gargoyle) {
        Human h = human(person);
        stone(gargoyle);
        if (h.seat != null || w.sitter(gargoyle) != null) {
            refuse(1, 0);
            return false;
        }
        act();
        h.seat = gargoyle;
        return true;
    }

    public int leave(int person, int gargoyle) {
        Human h = human(person);
        if (gargoyle != NONE) {
            stone(gargoyle);
        }
        int was = orNone(h.family);
        if (was == gargoyle) {
            return refuse(1, -2);
        }
        act();
        h.family = gargoyle == NONE ? null : Integer.valueOf(gargoyle);
        return was;
    }

    public int undo() {
        if (acts.isEmpty()) {
            return NONE;
        }
        w = acts.removeLast();
        return acts.size();
    }

    public int then(int gargoyle, int years, int what) {
        stone(gargoyle);
        what(what, 3);
        range(years, 0, 60);
        World t = w.copy().go(years);
        Stone s = t.stones.get(gargoyle);
        return new int[] {s.stone, s.jaw, s.brow, orNone(t.sitter(gargoyle))}[what];
    }

    public int where(int person, int years, int what) {
        human(person);
        what(what, 5);
        range(years, 0, 60);
        World t = w.copy().go(years);
        Human h = t.humans.get(person);
        Integer near = t.nearest(h, false);
        int far = near == null ? NONE : t.diff(h, t.stones.get(near));
        return new int[] {orNone(h.seat), h.jaw, h.brow, h.age, orNone(near), far}[what];
    }

    public int loaf(int gargoyle) {
        stone(gargoyle);
        return firstLoaf(w, gargoyle);
    }

    private static int firstLoaf(World from, int gargoyle) {
        for (int k = 0; k <= 60; k++) {
            if (from.copy().go(k).stones.get(gargoyle).stone == 0) {
                return k;
            }
        }
        return NONE;
    }

    public int later(int years, int what) {
        what(what, 2);
        range(years, 0, 60);
        World t = w.copy().go(years);
        int loaves = 0;
        for (int g = 0; g < t.stones.size(); g++) {
            loaves += t.stones.get(g).stone == 0 ? 1 << g : 0;
        }
        return new int[] {loaves, t.sitting(), t.total()}[what];
    }

    public int sat(int gargoyle, int years) {
        stone(gargoyle);
        range(years, 1, 60);
        int n = 0;
        for (int k = 1; k <= years; k++) {
            n += w.copy().go(k).sitter(gargoyle) != null ? 1 : 0;
        }
        return n;
    }

    public int fits(int person, int gargoyle) {
        human(person);
        stone(gargoyle);
        for (int k = 0; k <= 60; k++) {
            World t = w.copy().go(k);
            if (t.diff(t.humans.get(person), t.stones.get(gargoyle)) == 0) {
                return k;
            }
        }
        return NONE;
    }

    public int unlike(int a, int b, int what) {
        what(what, 2);
        if (what == 0) {
            return w.diff(human(a), stone(b));
        }
        if (what == 1) {
            return Math.abs(stone(a).jaw - stone(b).jaw) + Math.abs(stone(a).brow - stone(b).brow);
        }
        return Math.abs(human(a).jaw - human(b).jaw) + Math.abs(human(a).brow - human(b).brow);
    }

    private int[] bestRow;
    private int bestSum;

    public int seats(int person) {
        if (person != NONE) {
            human(person);
        }
        bestRow = null;
        tryRows(0, new int[w.humans.size()], 0, 0, 0);
        return person == NONE ? bestSum : bestRow[person] == w.stones.size() ? NONE : bestRow[person];
    }

    /** In the order of the rows, so that the first of like ones stays; nowhere is the last place. */
    private void tryRows(int p, int[] row, int taken, int many, int sum) {
        int needed = Math.min(w.humans.size(), w.stones.size());
        if (needed - many > w.humans.size() - p || bestRow != null && sum >= bestSum) {
            return;
        }
        if (p == w.humans.size()) {
            if (many == needed) {
                bestRow = row.clone();
                bestSum = sum;
            }
            return;
        }
        for (int g = 0; g < w.stones.size(); g++) {
            if ((taken & 1 << g) == 0) {
                row[p] = g;
                tryRows(p + 1, row, taken | 1 << g, many + 1, sum + w.diff(w.humans.get(p), w.stones.get(g)));
            }
        }
        row[p] = w.stones.size();
        tryRows(p + 1, row, taken, many, sum);
    }

    public int turn(int what) {
        what(what, 1);
        int n = w.stones.size();
        int best = NONE;
        int least = Integer.MAX_VALUE;
        for (int t = n - 1; t >= 0; t--) {
            int sum = 0;
            for (int i = 0; i < w.humans.size(); i++) {
                sum += w.diff(w.humans.get(i), w.stones.get((i + t) % n));
            }
            if (sum <= least) {
                least = sum;
                best = t;
            }
        }
        return what == 0 ? best : n == 0 ? NONE : least;
    }

    public int lasts(int person, int gargoyle) {
        human(person);
        stone(gargoyle);
        World t = w.copy();
        t.liftAnyway(person, gargoyle);
        return firstLoaf(t, gargoyle);
    }

    public int best(int person, int years, int what) {
        human(person);
        what(what, 1);
        range(years, 1, 60);
        int best = NONE;
        int most = NONE;
        for (int g = w.stones.size() - 1; g >= 0; g--) {
            World t = w.copy();
            t.liftAnyway(person, g);
            int total = t.go(years).total();
            if (total >= most) {
                most = total;
                best = g;
            }
        }
        return what == 0 ? best : most;
    }

    public int greatest(int years, int what) {
        what(what, 1);
        range(years, 0, 60);
        World t = w.copy().go(years);
        int best = NONE;
        if (what == 0) {
            for (int p = 0; p < t.humans.size(); p++) {
                Human h = t.humans.get(p);
                best = h.seat != null && (best == NONE || h.age > t.humans.get(best).age) ? p : best;
            }
        } else {
            for (int g = 0; g < t.stones.size(); g++) {
                best = best == NONE || t.stones.get(g).stone > t.stones.get(best).stone ? g : best;
            }
        }
        return best;
    }

    public int empty(int years) {
        range(years, 1, 60);
        int n = 0;
        for (int k = 1; k <= years; k++) {
            n += w.copy().go(k).sitting() == 0 ? 1 : 0;
        }
        return n;
    }

    public int homes() {
        int bits = 0;
        for (int p = 0; p < w.humans.size(); p++) {
            Human h = w.humans.get(p);
            bits += h.seat != null && h.seat.equals(h.family) ? 1 << p : 0;
        }
        return bits;
    }

    public int see(int person, int years, int jaw) {
        human(person);
        if (seen.size() == 8 || years < 0 || years > 20 || jaw < 0 || jaw > 9) {
            return refuse(2, NONE);
        }
        seen.add(new Sight(person, years, jaw));
        return seen.size();
    }

    private boolean holds(World from) {
        World t = from.copy();
        for (int k = 0; k <= 20; k++) {
            for (Sight s : seen) {
                if (s.years == k && t.humans.get(s.person).jaw != s.jaw) {
                    return false;
                }
            }
            t.go(1);
        }
        return true;
    }

    private List<int[]> olds() {
        List<int[]> found = new ArrayList<>();
        for (int p = 0; p < w.humans.size(); p++) {
            for (int age = 0; age < 100; age++) {
                World t = w.copy();
                t.humans.get(p).age = age;
                if (w.humans.get(p).age != age && holds(t)) {
                    found.add(new int[] {p, age});
                }
            }
        }
        return found;
    }

    public int old(int what) {
        what(what, 2);
        List<int[]> all = what == 2 ? List.of() : olds();
        return switch (what) {
            case 0 -> all.size();
            case 1 -> all.isEmpty() ? NONE : all.get(0)[0] * 100 + all.get(0)[1];
            default -> holds(w) ? 1 : 0;
        };
    }

    public int look(int what) {
        what(what, 1);
        List<Set<Integer>> places = new ArrayList<>();
        for (int p = 0; p < w.humans.size(); p++) {
            places.add(new TreeSet<>());
        }
        for (int[] one : olds()) {
            World t = w.copy();
            t.humans.get(one[0]).age = one[1];
            t.go(6);
            for (int p = 0; p < t.humans.size(); p++) {
                places.get(p).add(orNone(t.humans.get(p).seat));
            }
        }
        int who = NONE;
        for (int p = places.size() - 1; p >= 0; p--) {
            if (!places.get(p).isEmpty() && (who == NONE || places.get(p).size() >= places.get(who).size())) {
                who = p;
            }
        }
        return what == 0 ? who : who == NONE ? 0 : places.get(who).size();
    }

    public void forget() {
        seen.clear();
    }

    public int wet(int gargoyle, int years, int tenths) {
        stone(gargoyle);
        range(years, 1, 5);
        range(tenths, 0, 10);
        return wetFrom(w, gargoyle, years, tenths);
    }

    private int wetFrom(World from, int gargoyle, int years, int tenths) {
        if (years == 0) {
            return from.stones.get(gargoyle).stone == 0 ? 1 : 0;
        }
        World wet = from.copy();
        wet.step(9);
        World dry = from.copy();
        dry.step(0);
        return tenths * wetFrom(wet, gargoyle, years - 1, tenths)
            + (10 - tenths) * wetFrom(dry, gargoyle, years - 1, tenths);
    }

    private int gain(int mine, boolean cutMine, int theirs, boolean cutTheirs) {
        World t = w.copy();
        if (cutMine) {
            t.stones.get(mine).stone = 99;
        }
        if (cutTheirs) {
            t.stones.get(theirs).stone = 99;
        }
        t.go(6);
        int gain = t.stones.get(mine).stone / 10;
        for (Human h : t.humans) {
            gain += h.seat != null && h.family != null && h.family == mine ? 2 : 0;
        }
        return gain - (cutMine ? 3 : 0);
    }

    public int game(int gargoyle, int other, int what) {
        stone(gargoyle);
        stone(other);
        what(what, 1);
        if (gargoyle == other) {
            throw new IllegalArgumentException();
        }
        List<Integer> rests = new ArrayList<>();
        for (int a = 0; a < 2; a++) {
            for (int b = 0; b < 2; b++) {
                boolean x = a == 1;
                boolean y = b == 1;
                if (gain(gargoyle, x, other, y) >= gain(gargoyle, !x, other, y)
                    && gain(other, y, gargoyle, x) >= gain(other, !y, gargoyle, x)) {
                    rests.add(10 * a + b);
                }
            }
        }
        return what == 0 ? rests.size() : rests.isEmpty() ? NONE : rests.get(0);
    }

    private int seed;

    private int draw(int n) {
        long next = (seed & 0xffffffffL) * 1103515245L + 12345L;
        seed = (int) next;
        return (int) ((next & 0x7fffffffL) >> 16) % n;
    }

    public int ages(int seed, int n, int what) {
        what(what, 2);
        range(n, 0, 60);
        this.seed = seed;
        World t = w.copy();
        for (int k = 0; k < n; k++) {
            int rain = t.rainNow();
            switch (draw(6)) {
                case 0 -> {
                    if (!t.stones.isEmpty()) {
                        t.stones.get(draw(t.stones.size())).stone = 99;
                    }
                }
                case 1 -> {
                    if (!t.humans.isEmpty()) {
                        t.humans.get(draw(t.humans.size())).seat = null;
                    }
                }
                case 2 -> rain = draw(10);
                default -> { }
            }
            t.step(rain);
        }
        return new int[] {(int) t.loaves(), t.sitDowns, t.total()}[what];
    }

    public void image() {
        List<World> kept = new ArrayList<>();
        for (World t : acts) {
            kept.add(t.copy());
        }
        image = new Image(w.copy(), kept, List.copyOf(seen), status.clone());
    }

    public boolean restore() {
        if (image == null) {
            return false;
        }
        w = image.world.copy();
        acts = new ArrayDeque<>();
        for (World t : image.acts) {
            acts.addLast(t.copy());
        }
        seen = new ArrayList<>(image.seen);
        status = image.status.clone();
        return true;
    }
}

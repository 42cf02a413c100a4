import java.util.Arrays;
import java.util.NoSuchElementException;

/** Gargoyles round a tower and the people who sit in their places; README.md says how to use it. */
public final class GutterSeats {
    public static final int NONE = -1;

    private static final int MOST_BYTES = 700;
    private static final int FED_BYTES = 20;
    private static final int MOST = 8;
    private static final int MOST_ACTS = 40;
    private static final int LAST_YEAR = 999;
    private static final int YEARS_AHEAD = 60;
    private static final int YEARS_AN_ACT = 20;
    private static final int YEARS_SEEN = 20;
    private static final int YEARS_OF_LOOK = 6;
    private static final int YEARS_OF_GAME = 6;
    private static final int YEARS_WET = 5;
    private static final int MOST_FACE = 9;
    private static final int MOST_STONE = 99;
    private static final int MOST_AGE = 99;
    private static final int USUAL_RAIN = 3;
    private static final int WET_RAIN = 9;
    private static final int USUAL_CERTAIN = 30;
    private static final int IT_IS_SO = -2;
    private static final int REFUSED_TEXTS = 0;
    private static final int REFUSED_ACTS = 1;
    private static final int REFUSED_SEEN = 2;

    private final byte[] tape;
    private int tapeLength;
    private int faultPlace;
    private final Reader reader;
    private final Plan plan;
    private final Memory now;
    private final Memory kept;
    private boolean isKept;
    private final Walk walk;
    private final Seating seating;
    private final Dice dice;
    private final int[] gains;
    private final int[] placesOf;

    public GutterSeats() {
        tape = new byte[MOST_BYTES];
        tapeLength = 0;
        faultPlace = NONE;
        reader = new Reader(tape);
        plan = new Plan();
        now = new Memory();
        kept = new Memory();
        isKept = false;
        walk = new Walk(plan);
        seating = new Seating(now.state);
        dice = new Dice();
        gains = new int[2 * 4];
        placesOf = new int[MOST];
    }

    public int feed(int a, int b, int c, int d, int e) {
        if (tapeLength + FED_BYTES > MOST_BYTES) {
            return NONE;
        }
        putBytes(a);
        putBytes(b);
        putBytes(c);
        putBytes(d);
        putBytes(e);
        return tapeLength;
    }

    public int tower(int n) throws IllegalArgumentException {
        if (n < 0 || n > tapeLength) {
            throw new IllegalArgumentException("the tape has not so many bytes");
        }
        int found = reader.readTower(n);
        tapeLength = 0;
        faultPlace = reader.place;
        if (found != 0) {
            now.refused[REFUSED_TEXTS]++;
            return found;
        }
        plan.copyFrom(reader.draft);
        now.beginAnew(plan.start);
        isKept = false;
        return 0;
    }

    public int fault() {
        return faultPlace;
    }

    public int count(int what) throws NoSuchElementException {
        State state = now.state;
        switch (what) {
            case 0:
                return state.gargoyles;
            case 1:
                return state.people;
            case 2:
                return state.year;
            case 3:
                return plan.rainOf(state.year);
            case 4:
                return plan.certain;
            case 5:
                return Integer.bitCount(state.loafBits());
            case 6:
                return state.sitterBits();
            case 7:
                return state.stoneOfAll();
            case 8:
                return state.twins();
            case 9:
                return state.longestRow();
            case 10:
                return now.acts.size;
            case 11:
                return now.seen.size;
            case 12:
                return tapeLength;
            case 13:
            case 14:
            case 15:
                return now.refused[what - 13];
            default:
                throw new NoSuchElementException("no such count");
        }
    }

    public int gargoyle(int gargoyle, int what) throws NoSuchElementException {
        needGargoyle(gargoyle);
        State state = now.state;
        switch (what) {
            case 0:
                return state.jaw[gargoyle];
            case 1:
                return state.brow[gargoyle];
            case 2:
                return state.stone[gargoyle];
            case 3:
                return state.sitterAt(gargoyle);
            case 4:
                return state.familyBits(gargoyle);
            default:
                throw new NoSuchElementException("no such thing of a gargoyle");
        }
    }

    public int person(int person, int what) throws NoSuchElementException {
        needPerson(person);
        State state = now.state;
        switch (what) {
            case 0:
                return state.jaw[State.faceOf(person)];
            case 1:
                return state.brow[State.faceOf(person)];
            case 2:
                return state.age[person];
            case 3:
                return state.family[person];
            case 4:
                return state.seat[person];
            case 5:
                return plan.orphanBits >> person & 1;
            default:
                throw new NoSuchElementException("no such thing of a person");
        }
    }

    public int years(int many) {
        if (many < 1 || many > YEARS_AN_ACT || now.state.year + many > LAST_YEAR) {
            return refuseAct(NONE);
        }
        now.acts.keep(now.state);
        walk.begin(now.state);
        walk.passYears(many);
        now.state.copyFrom(walk.state);
        return now.state.year;
    }

    public int cut(int gargoyle, int jaw, int brow) throws NoSuchElementException {
        needGargoyle(gargoyle);
        if (jaw < 0 || jaw > MOST_FACE || brow < 0 || brow > MOST_FACE) {
            return refuseAct(NONE);
        }
        now.acts.keep(now.state);
        int stone = now.state.stone[gargoyle];
        now.state.carve(gargoyle, jaw, brow);
        return stone;
    }

    public int call(int person) throws NoSuchElementException {
        needPerson(person);
        int place = now.state.seat[person];
        if (place == NONE) {
            return refuseAct(NONE);
        }
        now.acts.keep(now.state);
        now.state.seat[person] = NONE;
        return place;
    }

    public boolean lift(int person, int gargoyle) throws NoSuchElementException {
        needPerson(person);
        needGargoyle(gargoyle);
        if (now.state.seat[person] != NONE || now.state.sitterAt(gargoyle) != NONE) {
            refuseAct(NONE);
            return false;
        }
        now.acts.keep(now.state);
        now.state.seat[person] = gargoyle;
        return true;
    }

    public int leave(int person, int gargoyle) throws NoSuchElementException {
        needPerson(person);
        if (gargoyle != NONE) {
            needGargoyle(gargoyle);
        }
        int before = now.state.family[person];
        if (before == gargoyle) {
            return refuseAct(IT_IS_SO);
        }
        now.acts.keep(now.state);
        now.state.family[person] = gargoyle;
        return before;
    }

    public int undo() {
        if (now.acts.size == 0) {
            return NONE;
        }
        now.acts.takeBack(now.state);
        return now.acts.size;
    }

    public int then(int gargoyle, int years, int what) throws NoSuchElementException, IllegalArgumentException {
        needGargoyle(gargoyle);
        needWhat(what, 3);
        State state = stateBehind(years);
        switch (what) {
            case 0:
                return state.stone[gargoyle];
            case 1:
                return state.jaw[gargoyle];
            case 2:
                return state.brow[gargoyle];
            default:
                return state.sitterAt(gargoyle);
        }
    }

    public int where(int person, int years, int what) throws NoSuchElementException, IllegalArgumentException {
        needPerson(person);
        needWhat(what, 5);
        State state = stateBehind(years);
        int closest = state.closest(person, 0);
        switch (what) {
            case 0:
                return state.seat[person];
            case 1:
                return state.jaw[State.faceOf(person)];
            case 2:
                return state.brow[State.faceOf(person)];
            case 3:
                return state.age[person];
            case 4:
                return closest;
            default:
                return closest == NONE ? NONE : state.unlikeness(State.faceOf(person), closest);
        }
    }

    public int loaf(int gargoyle) throws NoSuchElementException {
        needGargoyle(gargoyle);
        walk.begin(now.state);
        return walk.yearsToLoaf(gargoyle);
    }

    public int later(int years, int what) throws NoSuchElementException, IllegalArgumentException {
        needWhat(what, 2);
        State state = stateBehind(years);
        switch (what) {
            case 0:
                return state.loafBits();
            case 1:
                return state.sitterBits();
            default:
                return state.stoneOfAll();
        }
    }

    public int sat(int gargoyle, int years) throws NoSuchElementException, IllegalArgumentException {
        needGargoyle(gargoyle);
        needYears(years, 1);
        walk.begin(now.state);
        int many = 0;
        for (int i = 0; i < years; i++) {
            walk.passYears(1);
            if (walk.state.sitterAt(gargoyle) != NONE) {
                many++;
            }
        }
        return many;
    }

    public int fits(int person, int gargoyle) throws NoSuchElementException {
        needPerson(person);
        needGargoyle(gargoyle);
        walk.begin(now.state);
        for (int i = 0; i <= YEARS_AHEAD; i++) {
            if (walk.state.unlikeness(State.faceOf(person), gargoyle) == 0) {
                return i;
            }
            walk.passYears(1);
        }
        return NONE;
    }

    public int unlike(int a, int b, int what) throws NoSuchElementException {
        needWhat(what, 2);
        if (what == 1) {
            needGargoyle(a);
        } else {
            needPerson(a);
        }
        if (what == 2) {
            needPerson(b);
        } else {
            needGargoyle(b);
        }
        return now.state.unlikeness(what == 1 ? a : State.faceOf(a), what == 2 ? State.faceOf(b) : b);
    }

    public int seats(int person) throws NoSuchElementException {
        if (person != NONE) {
            needPerson(person);
        }
        seating.find();
        return person == NONE ? seating.difference() : seating.placeFor(person);
    }

    public int turn(int what) throws NoSuchElementException {
        needWhat(what, 1);
        int which = NONE;
        int least = NONE;
        for (int by = 0; by < now.state.gargoyles; by++) {
            int difference = turnedBy(by);
            if (which == NONE || difference < least) {
                which = by;
                least = difference;
            }
        }
        return what == 0 ? which : least;
    }

    public int lasts(int person, int gargoyle) throws NoSuchElementException {
        needPerson(person);
        needGargoyle(gargoyle);
        walk.begin(now.state);
        walk.state.moveUp(person, gargoyle);
        return walk.yearsToLoaf(gargoyle);
    }

    public int best(int person, int years, int what) throws NoSuchElementException, IllegalArgumentException {
        needPerson(person);
        needWhat(what, 1);
        needYears(years, 1);
        int which = NONE;
        int most = NONE;
        for (int gargoyle = 0; gargoyle < now.state.gargoyles; gargoyle++) {
            walk.begin(now.state);
            walk.state.moveUp(person, gargoyle);
            walk.passYears(years);
            int stone = walk.state.stoneOfAll();
            if (stone > most) {
                which = gargoyle;
                most = stone;
            }
        }
        return what == 0 ? which : most;
    }

    public int greatest(int years, int what) throws NoSuchElementException, IllegalArgumentException {
        needWhat(what, 1);
        State state = stateBehind(years);
        return what == 0 ? state.oldestSitter() : state.mostStone();
    }

    public int empty(int years) throws IllegalArgumentException {
        needYears(years, 1);
        walk.begin(now.state);
        int many = 0;
        for (int i = 0; i < years; i++) {
            walk.passYears(1);
            if (walk.state.sitterBits() == 0) {
                many++;
            }
        }
        return many;
    }

    public int homes() {
        return now.state.homeBits();
    }

    public int see(int person, int years, int jaw) throws NoSuchElementException {
        needPerson(person);
        boolean isTold = years >= 0 && years <= YEARS_SEEN && jaw >= 0 && jaw <= MOST_FACE;
        if (!isTold || now.seen.size >= MOST) {
            now.refused[REFUSED_SEEN]++;
            return NONE;
        }
        now.seen.put(person, years, jaw);
        return now.seen.size;
    }

    public int old(int what) throws NoSuchElementException {
        needWhat(what, 2);
        if (what == 2) {
            walk.begin(now.state);
            return walk.keepsTo(now.seen) ? 1 : 0;
        }
        int many = 0;
        int first = NONE;
        for (int person = 0; person < now.state.people; person++) {
            for (int age = 0; age <= MOST_AGE; age++) {
                if (couldBe(person, age)) {
                    many++;
                    first = first == NONE ? 100 * person + age : first;
                }
            }
        }
        return what == 0 ? many : first;
    }

    public int look(int what) throws NoSuchElementException {
        needWhat(what, 1);
        Arrays.fill(placesOf, 0);
        for (int person = 0; person < now.state.people; person++) {
            for (int age = 0; age <= MOST_AGE; age++) {
                if (couldBe(person, age)) {
                    addPlaces(person, age);
                }
            }
        }
        int who = NONE;
        int most = 0;
        for (int person = 0; person < now.state.people; person++) {
            int many = Integer.bitCount(placesOf[person]);
            if (many > most) {
                who = person;
                most = many;
            }
        }
        return what == 0 ? who : most;
    }

    public void forget() {
        now.seen.size = 0;
    }

    public int wet(int gargoyle, int years, int tenths) throws NoSuchElementException, IllegalArgumentException {
        needGargoyle(gargoyle);
        if (years < 1 || years > YEARS_WET || tenths < 0 || tenths > 10) {
            throw new IllegalArgumentException("no such years or tenths");
        }
        int likely = 0;
        for (int wetBits = 0; wetBits < 1 << years; wetBits++) {
            int weight = weightOf(wetBits, years, tenths);
            if (weight > 0 && isLoafBehind(gargoyle, years, wetBits)) {
                likely += weight;
            }
        }
        return likely;
    }

    public int game(int gargoyle, int other, int what) throws NoSuchElementException, IllegalArgumentException {
        needGargoyle(gargoyle);
        needGargoyle(other);
        needWhat(what, 1);
        if (gargoyle == other) {
            throw new IllegalArgumentException("both are one");
        }
        int many = 0;
        int first = NONE;
        for (int couple = 0; couple < 4; couple++) {
            play(gargoyle, other, couple);
        }
        for (int couple = 0; couple < 4; couple++) {
            if (rests(couple)) {
                many++;
                first = first == NONE ? 10 * (couple >> 1) + (couple & 1) : first;
            }
        }
        return what == 0 ? many : first;
    }

    public int ages(int seed, int n, int what) throws NoSuchElementException, IllegalArgumentException {
        needWhat(what, 2);
        needYears(n, 0);
        dice.seed = seed;
        walk.begin(now.state);
        for (int i = 0; i < n; i++) {
            walk.passYearByDice(dice);
        }
        switch (what) {
            case 0:
                return Integer.bitCount(walk.state.loafBits());
            case 1:
                return walk.satDown;
            default:
                return walk.state.stoneOfAll();
        }
    }

    public void image() {
        kept.copyFrom(now);
        isKept = true;
    }

    public boolean restore() {
        if (isKept) {
            now.copyFrom(kept);
        }
        return isKept;
    }

    private void needGargoyle(int gargoyle) {
        if (gargoyle < 0 || gargoyle >= now.state.gargoyles) {
            throw new NoSuchElementException("no such gargoyle");
        }
    }

    private void needPerson(int person) {
        if (person < 0 || person >= now.state.people) {
            throw new NoSuchElementException("no such person");
        }
    }

    private static void needWhat(int what, int last) {
        if (what < 0 || what > last) {
            throw new NoSuchElementException("no such what");
        }
    }

    private static void needYears(int years, int least) {
        if (years < least || years > YEARS_AHEAD) {
            throw new IllegalArgumentException("not so many years");
        }
    }

    private void putBytes(int four) {
        for (int shift = 24; shift >= 0; shift -= 8) {
            if (tapeLength < tape.length) {
                tape[tapeLength] = (byte) (four >> shift);
                tapeLength++;
            }
        }
    }

    private int refuseAct(int answer) {
        now.refused[REFUSED_ACTS]++;
        return answer;
    }

    private State stateBehind(int years) {
        needYears(years, 0);
        walk.begin(now.state);
        walk.passYears(years);
        return walk.state;
    }

    private int turnedBy(int by) {
        State state = now.state;
        int difference = 0;
        if (state.gargoyles > 0) {
            for (int person = 0; person < state.people; person++) {
                difference += state.unlikeness(State.faceOf(person), (person + by) % state.gargoyles);
            }
        }
        return difference;
    }

    private void beginWithAge(int person, int age) {
        walk.begin(now.state);
        walk.state.age[person] = age;
    }

    private boolean couldBe(int person, int age) {
        if (now.state.age[person] == age) {
            return false;
        }
        beginWithAge(person, age);
        return walk.keepsTo(now.seen);
    }

    /** In placesOf: bit 0 for nowhere, bit 1 and on for the gargoyles. */
    private void addPlaces(int person, int age) {
        beginWithAge(person, age);
        walk.passYears(YEARS_OF_LOOK);
        for (int other = 0; other < now.state.people; other++) {
            placesOf[other] |= 1 << (walk.state.seat[other] + 1);
        }
    }

    private static int weightOf(int wetBits, int years, int tenths) {
        int weight = 1;
        for (int i = 0; i < years; i++) {
            weight *= (wetBits >> i & 1) == 1 ? tenths : 10 - tenths;
        }
        return weight;
    }

    private boolean isLoafBehind(int gargoyle, int years, int wetBits) {
        walk.begin(now.state);
        for (int i = 0; i < years; i++) {
            walk.passYear((wetBits >> i & 1) == 1 ? WET_RAIN : 0);
        }
        return walk.state.stone[gargoyle] == 0;
    }

    /** A couple of choices is 2 by the first one's, and the other one's; gains has both ones' by it. */
    private void play(int gargoyle, int other, int couple) {
        int mine = couple >> 1;
        int theirs = couple & 1;
        walk.begin(now.state);
        if (mine == 1) {
            walk.state.carveAsItIs(gargoyle);
        }
        if (theirs == 1) {
            walk.state.carveAsItIs(other);
        }
        walk.passYears(YEARS_OF_GAME);
        gains[2 * couple] = walk.state.gainOf(gargoyle) - 3 * mine;
        gains[2 * couple + 1] = walk.state.gainOf(other) - 3 * theirs;
    }

    private boolean rests(int couple) {
        int otherwiseMine = gains[2 * (couple ^ 2)];
        int otherwiseTheirs = gains[2 * (couple ^ 1) + 1];
        return otherwiseMine <= gains[2 * couple] && otherwiseTheirs <= gains[2 * couple + 1];
    }

    /** All that years and acts change. A face is a gargoyle's number, or a person's behind them. */
    private static final class State {
        static final int SIZE = 8 * MOST + 1;

        int gargoyles;
        int people;
        int year;
        final int[] jaw = new int[2 * MOST];
        final int[] brow = new int[2 * MOST];
        final int[] stone = new int[MOST];
        final int[] age = new int[MOST];
        final int[] family = new int[MOST];
        final int[] seat = new int[MOST];

        static int faceOf(int person) {
            return MOST + person;
        }

        void copyFrom(State other) {
            gargoyles = other.gargoyles;
            people = other.people;
            year = other.year;
            System.arraycopy(other.jaw, 0, jaw, 0, jaw.length);
            System.arraycopy(other.brow, 0, brow, 0, brow.length);
            System.arraycopy(other.stone, 0, stone, 0, stone.length);
            System.arraycopy(other.age, 0, age, 0, age.length);
            System.arraycopy(other.family, 0, family, 0, family.length);
            System.arraycopy(other.seat, 0, seat, 0, seat.length);
        }

        void writeTo(int[] rows, int at) {
            System.arraycopy(jaw, 0, rows, at, 2 * MOST);
            System.arraycopy(brow, 0, rows, at + 2 * MOST, 2 * MOST);
            System.arraycopy(stone, 0, rows, at + 4 * MOST, MOST);
            System.arraycopy(age, 0, rows, at + 5 * MOST, MOST);
            System.arraycopy(family, 0, rows, at + 6 * MOST, MOST);
            System.arraycopy(seat, 0, rows, at + 7 * MOST, MOST);
            rows[at + 8 * MOST] = year;
        }

        void readFrom(int[] rows, int at) {
            System.arraycopy(rows, at, jaw, 0, 2 * MOST);
            System.arraycopy(rows, at + 2 * MOST, brow, 0, 2 * MOST);
            System.arraycopy(rows, at + 4 * MOST, stone, 0, MOST);
            System.arraycopy(rows, at + 5 * MOST, age, 0, MOST);
            System.arraycopy(rows, at + 6 * MOST, family, 0, MOST);
            System.arraycopy(rows, at + 7 * MOST, seat, 0, MOST);
            year = rows[at + 8 * MOST];
        }

        int unlikeness(int face, int other) {
            return Math.abs(jaw[face] - jaw[other]) + Math.abs(brow[face] - brow[other]);
        }

        /** The gargoyle out of the taken ones' bits to which the person is least unlike. */
        int closest(int person, int taken) {
            int which = NONE;
            int least = NONE;
            for (int gargoyle = 0; gargoyle < gargoyles; gargoyle++) {
                int difference = unlikeness(faceOf(person), gargoyle);
                boolean isFree = (taken >> gargoyle & 1) == 0;
                if (isFree && (which == NONE || difference < least)) {
                    which = gargoyle;
                    least = difference;
                }
            }
            return which;
        }

        int sitterAt(int gargoyle) {
            for (int person = 0; person < people; person++) {
                if (seat[person] == gargoyle) {
                    return person;
                }
            }
            return NONE;
        }

        int takenBits() {
            int bits = 0;
            for (int person = 0; person < people; person++) {
                if (seat[person] != NONE) {
                    bits |= 1 << seat[person];
                }
            }
            return bits;
        }

        int sitterBits() {
            int bits = 0;
            for (int person = 0; person < people; person++) {
                if (seat[person] != NONE) {
                    bits |= 1 << person;
                }
            }
            return bits;
        }

        int familyBits(int gargoyle) {
            int bits = 0;
            for (int person = 0; person < people; person++) {
                if (family[person] == gargoyle) {
                    bits |= 1 << person;
                }
            }
            return bits;
        }

        int homeBits() {
            int bits = 0;
            for (int person = 0; person < people; person++) {
                if (seat[person] != NONE && seat[person] == family[person]) {
                    bits |= 1 << person;
                }
            }
            return bits;
        }

        int loafBits() {
            int bits = 0;
            for (int gargoyle = 0; gargoyle < gargoyles; gargoyle++) {
                if (stone[gargoyle] == 0) {
                    bits |= 1 << gargoyle;
                }
            }
            return bits;
        }

        int stoneOfAll() {
            int sum = 0;
            for (int gargoyle = 0; gargoyle < gargoyles; gargoyle++) {
                sum += stone[gargoyle];
            }
            return sum;
        }

        int twins() {
            int couples = 0;
            for (int one = 0; one < people; one++) {
                for (int two = one + 1; two < people; two++) {
                    if (unlikeness(faceOf(one), faceOf(two)) == 0) {
                        couples++;
                    }
                }
            }
            return couples;
        }

        /** Goes round twice, so that a row over the last and the first one is met whole. */
        int longestRow() {
            int row = 0;
            int longest = 0;
            for (int i = 0; i < 2 * gargoyles; i++) {
                int gargoyle = i < gargoyles ? i : i - gargoyles;
                row = stone[gargoyle] == 0 ? row + 1 : 0;
                longest = Math.max(longest, row);
            }
            return Math.min(longest, gargoyles);
        }

        int oldestSitter() {
            int who = NONE;
            int most = NONE;
            for (int person = 0; person < people; person++) {
                if (seat[person] != NONE && age[person] > most) {
                    who = person;
                    most = age[person];
                }
            }
            return who;
        }

        int mostStone() {
            int which = NONE;
            int most = NONE;
            for (int gargoyle = 0; gargoyle < gargoyles; gargoyle++) {
                if (stone[gargoyle] > most) {
                    which = gargoyle;
                    most = stone[gargoyle];
                }
            }
            return which;
        }

        /** What the game gives for a family, but for the price of the cut. */
        int gainOf(int gargoyle) {
            return stone[gargoyle] / 10 + 2 * Integer.bitCount(familyBits(gargoyle) & sitterBits());
        }

        void setFace(int face, int newJaw, int newBrow) {
            jaw[face] = newJaw;
            brow[face] = newBrow;
        }

        void setStone(int gargoyle, int newStone) {
            stone[gargoyle] = Math.max(0, newStone);
            if (stone[gargoyle] == 0) {
                setFace(gargoyle, 0, 0);
            }
        }

        void carve(int gargoyle, int newJaw, int newBrow) {
            setFace(gargoyle, newJaw, newBrow);
            stone[gargoyle] = MOST_STONE;
        }

        void carveAsItIs(int gargoyle) {
            stone[gargoyle] = MOST_STONE;
        }

        /** Lifts one up, whoever sits there and wherever one sits. */
        void moveUp(int person, int gargoyle) {
            int sitter = sitterAt(gargoyle);
            if (sitter != NONE) {
                seat[sitter] = NONE;
            }
            seat[person] = gargoyle;
        }

        private static int nearer(int from, int to) {
            return from + Integer.compare(to, from);
        }

        void growLike(int person, int gargoyle) {
            int face = faceOf(person);
            setFace(face, nearer(jaw[face], jaw[gargoyle]), nearer(brow[face], brow[gargoyle]));
        }
    }

    /** What a text tells. */
    private static final class Plan {
        final State start = new State();
        int orphanBits;
        final int[] rain = new int[MOST];
        int rains;
        int certain = USUAL_CERTAIN;
        boolean isCertainTold;
        final Rule wears = new Rule();
        final Rule sits = new Rule();

        void clear() {
            start.gargoyles = 0;
            start.people = 0;
            start.year = 0;
            orphanBits = 0;
            rains = 0;
            certain = USUAL_CERTAIN;
            isCertainTold = false;
            wears.length = 0;
            sits.length = 0;
        }

        void copyFrom(Plan other) {
            start.copyFrom(other.start);
            orphanBits = other.orphanBits;
            System.arraycopy(other.rain, 0, rain, 0, rain.length);
            rains = other.rains;
            certain = other.certain;
            isCertainTold = other.isCertainTold;
            wears.copyFrom(other.wears);
            sits.copyFrom(other.sits);
        }

        int rainOf(int year) {
            return rains == 0 ? USUAL_RAIN : rain[year % rains];
        }
    }

    /** A rule, its parts ahead of what joins them; one that isn't told has length 0. */
    private static final class Rule {
        static final int MOST_NUMBER = 9999;
        static final int FIRST_VALUE = 10000;
        static final int RAIN = 0;
        static final int STONE = 1;
        static final int BESIDE = 2;
        static final int YEAR = 3;
        static final int UNLIKE = 4;
        static final int AGE = 5;
        static final int FAMILY = 6;
        static final int VALUES = 7;
        static final int OR = -1;
        static final int AND = -2;
        static final int NOT = -3;
        static final int LESS = -4;
        static final int SAME = -5;
        static final int PLUS = -6;
        static final int MINUS = -7;
        static final int TIMES = -8;
        static final int OVER = -9;
        // six levels, each with at most five parts that wait, and the one at hand
        static final int MOST_WAITING = 32;

        final int[] items = new int[MOST_BYTES];
        int length;

        void add(int item) {
            if (length < items.length) {
                items[length] = item;
                length++;
            }
        }

        void copyFrom(Rule other) {
            length = other.length;
            System.arraycopy(other.items, 0, items, 0, length);
        }

        int worth(int[] values, int[] waiting) {
            int top = 0;
            for (int i = 0; i < length; i++) {
                int item = items[i];
                if (item >= 0) {
                    if (top < waiting.length) {
                        waiting[top] = item < FIRST_VALUE ? item : values[item - FIRST_VALUE];
                        top++;
                    }
                } else if (item == NOT) {
                    if (top > 0) {
                        waiting[top - 1] = waiting[top - 1] == 0 ? 1 : 0;
                    }
                } else if (top > 1) {
                    top--;
                    waiting[top - 1] = join(item, waiting[top - 1], waiting[top]);
                }
            }
            return top > 0 ? waiting[top - 1] : 0;
        }

        private static int join(int item, int left, int right) {
            switch (item) {
                case OR:
                    return left != 0 || right != 0 ? 1 : 0;
                case AND:
                    return left != 0 && right != 0 ? 1 : 0;
                case LESS:
                    return left < right ? 1 : 0;
                case SAME:
                    return left == right ? 1 : 0;
                case PLUS:
                    return left + right;
                case MINUS:
                    return left - right;
                case TIMES:
                    return left * right;
                default:
                    return right == 0 ? 0 : left / right;
            }
        }
    }

    /** The words of a text; value is the place of what a word gives in a rule. */
    private enum Word {
        GARGOYLE("gargoyle", NONE, false, false),
        PERSON("person", NONE, false, false),
        ORPHAN("orphan", NONE, false, false),
        OF("of", NONE, false, false),
        CERTAIN("certain", NONE, false, false),
        WEARS("wears", NONE, false, false),
        SITS("sits", NONE, false, false),
        OR("or", NONE, false, false),
        AND("and", NONE, false, false),
        NOT("not", NONE, false, false),
        RAIN("rain", Rule.RAIN, true, false),
        STONE("stone", Rule.STONE, true, true),
        BESIDE("beside", Rule.BESIDE, true, false),
        YEAR("year", Rule.YEAR, true, true),
        UNLIKE("unlike", Rule.UNLIKE, false, true),
        AGE("age", Rule.AGE, false, true),
        FAMILY("family", Rule.FAMILY, false, true);

        final String letters;
        final int value;
        final boolean isOfWears;
        final boolean isOfSits;

        Word(String letters, int value, boolean isOfWears, boolean isOfSits) {
            this.letters = letters;
            this.value = value;
            this.isOfWears = isOfWears;
            this.isOfSits = isOfSits;
        }
    }

    /** Reads a text into a plan, up to its first fault. A sign's kind is the sign itself. */
    private static final class Reader {
        private static final Word[] WORDS = Word.values();
        private static final int END = 0;
        private static final int WORD = 1;
        private static final int NUMBER = 2;
        private static final int BLANK = 3;
        private static final int NO_TOKEN = 4;
        private static final int MOST_DIGITS = 4;
        private static final int LEVELS = 6;
        private static final int MOST_NOTS = 6;
        private static final int CANNOT_STAND = 1;
        private static final int TOO_MUCH = 2;
        private static final int UNKNOWN = 3;
        private static final int SECOND = 5;

        final Plan draft = new Plan();
        int place = NONE;
        private final byte[] text;
        private int length;
        private int at;
        private int kind;
        private int start;
        private Word word;
        private int number;
        private Rule rule;
        private int found;

        Reader(byte[] text) {
            this.text = text;
            rule = draft.wears;
        }

        /** The fault, or 0 if draft has all of the text. */
        int readTower(int bytes) {
            begin(bytes);
            for (int i = 0; i < MOST_BYTES && kind != END && found == 0; i++) {
                if (word == Word.GARGOYLE) {
                    readGargoyle();
                } else if (word == Word.PERSON || word == Word.ORPHAN) {
                    readPerson();
                } else if (word == Word.RAIN) {
                    readRains();
                } else if (word == Word.CERTAIN) {
                    readCertain();
                } else if (word == Word.WEARS || word == Word.SITS) {
                    readRule();
                } else {
                    refuse(CANNOT_STAND);
                }
                skip(';');
            }
            return found;
        }

        private void begin(int bytes) {
            length = Math.max(0, Math.min(bytes, text.length));
            at = 0;
            draft.clear();
            found = 0;
            place = NONE;
            advance();
        }

        /** The first fault stays: behind it nothing is taken any more. */
        private void refuse(int code) {
            if (found == 0) {
                found = code;
                place = start;
            }
        }

        private void skip(char sign) {
            if (kind != sign) {
                refuse(CANNOT_STAND);
            } else if (found == 0) {
                advance();
            }
        }

        /** The number at hand, if it is one and not above most. */
        private int takeNumber(int most) {
            int taken = number;
            if (kind != NUMBER) {
                refuse(CANNOT_STAND);
            } else if (number > most) {
                refuse(TOO_MUCH);
            } else if (found == 0) {
                advance();
            }
            return taken;
        }

        private void readGargoyle() {
            State told = draft.start;
            int gargoyle = told.gargoyles;
            if (gargoyle >= MOST) {
                refuse(TOO_MUCH);
                return;
            }
            advance();
            int jaw = takeNumber(MOST_FACE);
            int brow = takeNumber(MOST_FACE);
            int stone = takeNumber(MOST_STONE);
            told.setFace(gargoyle, jaw, brow);
            told.setStone(gargoyle, stone);
            told.gargoyles++;
        }

        private void readPerson() {
            State told = draft.start;
            int person = told.people;
            if (person >= MOST) {
                refuse(TOO_MUCH);
                return;
            }
            draft.orphanBits |= word == Word.ORPHAN ? 1 << person : 0;
            advance();
            int jaw = takeNumber(MOST_FACE);
            int brow = takeNumber(MOST_FACE);
            told.setFace(State.faceOf(person), jaw, brow);
            told.age[person] = takeNumber(MOST_AGE);
            told.family[person] = word == Word.OF ? takeFamily() : NONE;
            told.seat[person] = NONE;
            told.people++;
        }

        private int takeFamily() {
            if (found == 0) {
                advance();
            }
            if (kind == NUMBER && number <= Rule.MOST_NUMBER && number >= draft.start.gargoyles) {
                refuse(UNKNOWN);
            }
            return takeNumber(Rule.MOST_NUMBER);
        }

        private void readRains() {
            if (draft.rains > 0) {
                refuse(SECOND);
                return;
            }
            advance();
            readRain();
            for (int i = 0; i < MOST && found == 0 && kind == NUMBER; i++) {
                readRain();
            }
        }

        private void readRain() {
            if (draft.rains >= MOST) {
                refuse(TOO_MUCH);
                return;
            }
            draft.rain[draft.rains] = takeNumber(MOST_FACE);
            draft.rains++;
        }

        private void readCertain() {
            if (draft.isCertainTold) {
                refuse(SECOND);
                return;
            }
            advance();
            draft.isCertainTold = true;
            draft.certain = takeNumber(MOST_AGE);
        }

        private void readRule() {
            rule = word == Word.WEARS ? draft.wears : draft.sits;
            if (rule.length > 0) {
                refuse(SECOND);
                return;
            }
            advance();
            readExpr(0);
        }

        private void readExpr(int depth) {
            if (depth >= LEVELS) {
                boolean canBegin = kind == NUMBER || kind == WORD || kind == '(';
                refuse(canBegin ? TOO_MUCH : CANNOT_STAND);
                return;
            }
            readAnd(depth);
            for (int i = 0; i < MOST_BYTES && found == 0 && word == Word.OR; i++) {
                advance();
                readAnd(depth);
                rule.add(Rule.OR);
            }
        }

        private void readAnd(int depth) {
            readNot(depth);
            for (int i = 0; i < MOST_BYTES && found == 0 && word == Word.AND; i++) {
                advance();
                readNot(depth);
                rule.add(Rule.AND);
            }
        }

        private void readNot(int depth) {
            int nots = 0;
            while (nots < MOST_NOTS && word == Word.NOT) {
                advance();
                nots++;
            }
            if (word == Word.NOT) {
                refuse(TOO_MUCH);
                return;
            }
            readTest(depth);
            for (int i = 0; i < nots; i++) {
                rule.add(Rule.NOT);
            }
        }

        private void readTest(int depth) {
            readSum(depth);
            if (found == 0 && (kind == '<' || kind == '=')) {
                int item = kind == '<' ? Rule.LESS : Rule.SAME;
                advance();
                readSum(depth);
                rule.add(item);
            }
        }

        private void readSum(int depth) {
            readProduct(depth);
            for (int i = 0; i < MOST_BYTES && found == 0 && (kind == '+' || kind == '-'); i++) {
                int item = kind == '+' ? Rule.PLUS : Rule.MINUS;
                advance();
                readProduct(depth);
                rule.add(item);
            }
        }

        private void readProduct(int depth) {
            readPart(depth);
            for (int i = 0; i < MOST_BYTES && found == 0 && (kind == '*' || kind == '/'); i++) {
                int item = kind == '*' ? Rule.TIMES : Rule.OVER;
                advance();
                readPart(depth);
                rule.add(item);
            }
        }

        private void readPart(int depth) {
            if (kind == '(') {
                advance();
                readExpr(depth + 1);
                skip(')');
            } else if (kind == WORD) {
                readValue();
            } else {
                rule.add(takeNumber(Rule.MOST_NUMBER));
            }
        }

        private void readValue() {
            boolean isValue = word != null && (rule == draft.wears ? word.isOfWears : word.isOfSits);
            if (!isValue) {
                refuse(UNKNOWN);
                return;
            }
            rule.add(Rule.FIRST_VALUE + word.value);
            advance();
        }

        private void advance() {
            at = endOfRow(at, BLANK);
            start = at;
            word = null;
            if (at >= length) {
                kind = END;
                return;
            }
            kind = kindOf(text[at]);
            at = kind == WORD || kind == NUMBER ? endOfRow(at, kind) : at + 1;
            if (kind == WORD) {
                word = findWord();
            } else if (kind == NUMBER) {
                number = findNumber();
            }
        }

        private int endOfRow(int from, int rowKind) {
            for (int i = from; i < length; i++) {
                if (kindOf(text[i]) != rowKind) {
                    return i;
                }
            }
            return length;
        }

        private static int kindOf(int sign) {
            switch (sign) {
                case ' ':
                case '\n':
                    return BLANK;
                case ';':
                case '(':
                case ')':
                case '+':
                case '-':
                case '*':
                case '/':
                case '<':
                case '=':
                    return sign;
                default:
                    if (sign >= 'a' && sign <= 'z') {
                        return WORD;
                    }
                    return sign >= '0' && sign <= '9' ? NUMBER : NO_TOKEN;
            }
        }

        private Word findWord() {
            for (int i = 0; i < WORDS.length; i++) {
                String letters = WORDS[i].letters;
                int same = 0;
                while (same < letters.length() && start + same < at && letters.charAt(same) == text[start + same]) {
                    same++;
                }
                if (same == letters.length() && start + same == at) {
                    return WORDS[i];
                }
            }
            return null;
        }

        /** A number of too many digits, whatever its worth, is above all that may be told. */
        private int findNumber() {
            if (at - start > MOST_DIGITS) {
                return Rule.MOST_NUMBER + 1;
            }
            int sum = 0;
            for (int i = start; i < at; i++) {
                sum = 10 * sum + text[i] - '0';
            }
            return sum;
        }
    }

    /** Years that go by on a copy, so that what is now stays. */
    private static final class Walk {
        private static final int MOST_WEAR = 20;
        private static final int USUAL_UNLIKE = 2;

        final State state = new State();
        int satDown;
        private final Plan plan;
        private final int[] values = new int[Rule.VALUES];
        private final int[] waiting = new int[Rule.MOST_WAITING];

        Walk(Plan plan) {
            this.plan = plan;
        }

        void begin(State from) {
            state.copyFrom(from);
            satDown = 0;
        }

        void passYears(int many) {
            for (int i = 0; i < many; i++) {
                passYear(plan.rainOf(state.year));
            }
        }

        void passYear(int rain) {
            values[Rule.YEAR] = state.year;
            values[Rule.RAIN] = rain;
            wearAll(rain);
            growAll();
            seatAll();
            state.year++;
        }

        void passYearByDice(Dice dice) {
            int rain = plan.rainOf(state.year);
            int drawn = dice.draw(6);
            if (drawn == 0 && state.gargoyles > 0) {
                state.carveAsItIs(dice.draw(state.gargoyles));
            } else if (drawn == 1 && state.people > 0) {
                state.seat[dice.draw(state.people)] = NONE;
            } else if (drawn == 2) {
                rain = dice.draw(10);
            }
            passYear(rain);
        }

        int yearsToLoaf(int gargoyle) {
            for (int i = 0; i <= YEARS_AHEAD; i++) {
                if (state.stone[gargoyle] == 0) {
                    return i;
                }
                passYear(plan.rainOf(state.year));
            }
            return NONE;
        }

        boolean keepsTo(Seen seen) {
            int last = seen.lastYears();
            for (int i = 0; i <= last; i++) {
                if (!seen.isSo(state, i)) {
                    return false;
                }
                if (i < last) {
                    passYear(plan.rainOf(state.year));
                }
            }
            return true;
        }

        private void wearAll(int rain) {
            int taken = state.takenBits();
            for (int gargoyle = 0; gargoyle < state.gargoyles; gargoyle++) {
                int stone = state.stone[gargoyle];
                if (stone > 0 && (taken >> gargoyle & 1) == 0) {
                    int wear = plan.wears.length == 0 ? rain : wearOf(gargoyle);
                    state.setStone(gargoyle, stone - Math.max(0, Math.min(wear, MOST_WEAR)));
                }
            }
        }

        private int wearOf(int gargoyle) {
            int last = state.gargoyles - 1;
            int before = gargoyle == 0 ? last : gargoyle - 1;
            int after = gargoyle == last ? 0 : gargoyle + 1;
            values[Rule.STONE] = state.stone[gargoyle];
            values[Rule.BESIDE] = state.stone[before] + state.stone[after];
            return plan.wears.worth(values, waiting);
        }

        private void growAll() {
            for (int person = 0; person < state.people; person++) {
                int age = Math.min(state.age[person] + 1, MOST_AGE);
                int family = state.family[person];
                state.age[person] = age;
                boolean isOrphan = (plan.orphanBits >> person & 1) == 1;
                if (age >= plan.certain && !isOrphan && family != NONE) {
                    state.growLike(person, family);
                }
            }
        }

        private void seatAll() {
            int taken = state.takenBits();
            for (int person = 0; person < state.people; person++) {
                int place = state.seat[person];
                if (place != NONE) {
                    if (!isForSitting(person, place)) {
                        state.seat[person] = NONE;
                        taken &= ~(1 << place);
                    }
                    continue;
                }
                place = state.closest(person, taken);
                if (place != NONE && isForSitting(person, place)) {
                    state.seat[person] = place;
                    taken |= 1 << place;
                    satDown++;
                }
            }
        }

        private boolean isForSitting(int person, int gargoyle) {
            int unlike = state.unlikeness(State.faceOf(person), gargoyle);
            if (plan.sits.length == 0) {
                return unlike <= USUAL_UNLIKE;
            }
            values[Rule.UNLIKE] = unlike;
            values[Rule.AGE] = state.age[person];
            values[Rule.STONE] = state.stone[gargoyle];
            values[Rule.FAMILY] = state.family[person] == gargoyle ? 1 : 0;
            return plan.sits.worth(values, waiting) > 0;
        }
    }

    /** The states ahead of the acts that are kept, the oldest one first. */
    private static final class Acts {
        private final int[] rows = new int[MOST_ACTS * State.SIZE];
        int size;

        void keep(State before) {
            if (size >= MOST_ACTS) {
                System.arraycopy(rows, State.SIZE, rows, 0, (MOST_ACTS - 1) * State.SIZE);
                size = MOST_ACTS - 1;
            }
            before.writeTo(rows, size * State.SIZE);
            size++;
        }

        void takeBack(State into) {
            if (size > 0) {
                size--;
                into.readFrom(rows, size * State.SIZE);
            }
        }

        void copyFrom(Acts other) {
            size = other.size;
            System.arraycopy(other.rows, 0, rows, 0, size * State.SIZE);
        }
    }

    /** The jaws that were seen: whose, behind how many years, which. */
    private static final class Seen {
        private final int[] who = new int[MOST];
        private final int[] behind = new int[MOST];
        private final int[] jaw = new int[MOST];
        int size;

        void put(int person, int years, int seenJaw) {
            if (size < MOST) {
                who[size] = person;
                behind[size] = years;
                jaw[size] = seenJaw;
                size++;
            }
        }

        /** NONE, if nothing is seen. */
        int lastYears() {
            int last = NONE;
            for (int i = 0; i < size; i++) {
                last = Math.max(last, behind[i]);
            }
            return last;
        }

        boolean isSo(State state, int years) {
            for (int i = 0; i < size; i++) {
                if (behind[i] == years && state.jaw[State.faceOf(who[i])] != jaw[i]) {
                    return false;
                }
            }
            return true;
        }

        void copyFrom(Seen other) {
            size = other.size;
            System.arraycopy(other.who, 0, who, 0, MOST);
            System.arraycopy(other.behind, 0, behind, 0, MOST);
            System.arraycopy(other.jaw, 0, jaw, 0, MOST);
        }
    }

    /** All that an image keeps. */
    private static final class Memory {
        final State state = new State();
        final Acts acts = new Acts();
        final Seen seen = new Seen();
        final int[] refused = new int[3];

        void beginAnew(State start) {
            state.copyFrom(start);
            acts.size = 0;
            seen.size = 0;
        }

        void copyFrom(Memory other) {
            state.copyFrom(other.state);
            acts.copyFrom(other.acts);
            seen.copyFrom(other.seen);
            System.arraycopy(other.refused, 0, refused, 0, refused.length);
        }
    }

    /** Seats for all by least difference: least has, for the people from one on and for the
        places that are taken by those ahead, the least difference that is still to come. */
    private static final class Seating {
        private static final int SETS = 1 << MOST;
        private static final int FAR = 1000000;

        private final int[] least = new int[(MOST + 1) * SETS];
        private final State state;

        Seating(State state) {
            this.state = state;
        }

        void find() {
            int needed = Math.min(state.gargoyles, state.people);
            int sets = 1 << state.gargoyles;
            for (int taken = 0; taken < sets; taken++) {
                least[state.people * SETS + taken] = Integer.bitCount(taken) == needed ? 0 : FAR;
            }
            for (int person = state.people - 1; person >= 0; person--) {
                for (int taken = 0; taken < sets; taken++) {
                    least[person * SETS + taken] = leastFrom(person, taken);
                }
            }
        }

        int difference() {
            return least[0];
        }

        int placeFor(int whom) {
            int taken = 0;
            int place = NONE;
            for (int person = 0; person <= whom; person++) {
                place = firstPlace(person, taken);
                if (place != NONE) {
                    taken |= 1 << place;
                }
            }
            return place;
        }

        private int leastFrom(int person, int taken) {
            int found = least[(person + 1) * SETS + taken];
            for (int gargoyle = 0; gargoyle < state.gargoyles; gargoyle++) {
                found = Math.min(found, differenceWith(person, gargoyle, taken));
            }
            return found;
        }

        private int firstPlace(int person, int taken) {
            for (int gargoyle = 0; gargoyle < state.gargoyles; gargoyle++) {
                if (differenceWith(person, gargoyle, taken) == least[person * SETS + taken]) {
                    return gargoyle;
                }
            }
            return NONE;
        }

        private int differenceWith(int person, int gargoyle, int taken) {
            if ((taken >> gargoyle & 1) == 1) {
                return FAR;
            }
            int toCome = least[(person + 1) * SETS + (taken | 1 << gargoyle)];
            return Math.min(FAR, toCome + state.unlikeness(State.faceOf(person), gargoyle));
        }
    }

    private static final class Dice {
        int seed;

        int draw(int n) {
            seed = seed * 1103515245 + 12345;
            return n > 0 ? (seed >>> 16 & 0x7fff) % n : 0;
        }
    }
}

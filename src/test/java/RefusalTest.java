import java.util.function.Supplier;
import java.util.function.ToIntFunction;

/** Each call that is refused or throws, promise by promise, with the call just inside the bound:
    what it answers, which throw stands ahead, and that nothing else changes but what is said. */
public final class RefusalTest {
    private static final int NONE = GutterSeats.NONE;
    private static final int LEAST = Integer.MIN_VALUE;
    private static final int GREATEST = Integer.MAX_VALUE;
    private static final String NO_SUCH = Check.NO_SUCH;
    private static final String ILLEGAL = Check.ILLEGAL;
    private static final int[] OUTSIDE = {3, 8, GREATEST, NONE, -2, LEAST};
    private static final int[] OUTSIDE_OR_NONE = {3, 8, GREATEST, -2, LEAST};
    private static final int[] NO_STATUS = Picture.NO_STATUS;
    private static final int[] AN_ACT = {0, 1, 0};
    private static final int[] A_SIGHT = {0, 0, 1};

    private interface Call extends ToIntFunction<GutterSeats> { }

    /** The call with a number of its own: a gargoyle's, a person's, a what, so many years. */
    private interface Numbered {
        int with(GutterSeats x, int number);
    }

    public static void main(String[] args) {
        feed();
        tower();
        count();
        gargoyle();
        person();
        years();
        cut();
        call();
        lift();
        leave();
        undo();
        questionsOfYears();
        questionsOfNow();
        questionsOfSeats();
        see();
        oldAndLook();
        wet();
        game();
        ages();
        restore();
        questionsChangeNothing();
        Check.end();
    }

    private static int bit(boolean answer) {
        return answer ? 1 : 0;
    }

    /** The call answers so, and nothing changes but the STATUS. */
    private static void refused(String sentence, Supplier<GutterSeats> made, Call call, int answer, int[] status) {
        GutterSeats x = made.get();
        Check.same(sentence, call.applyAsInt(x), answer);
        Picture.same(sentence, Picture.whole(x, status), Picture.whole(made.get(), NO_STATUS));
    }

    private static void refused(String sentence, Call call, int answer, int[] status) {
        refused(sentence, Picture::lived, call, answer, status);
    }

    /** The call throws this, and nothing changes. */
    private static void fails(String sentence, String exception, Supplier<GutterSeats> made, Call call) {
        GutterSeats x = made.get();
        Check.fails(sentence, exception, () -> call.applyAsInt(x));
        Picture.same(sentence, Picture.whole(x, NO_STATUS), Picture.whole(made.get(), NO_STATUS));
    }

    private static void fails(String sentence, String exception, Call call) {
        fails(sentence, exception, Picture::lived, call);
    }

    private static void allows(String sentence, Call call, int answer) {
        Check.same(sentence, call.applyAsInt(Picture.lived()), answer);
    }

    /** lived() has three gargoyles and three people: 2 is there, 3 isn't. */
    private static void noSuch(String sentence, int[] outside, Numbered call) {
        call.with(Picture.lived(), 0);
        call.with(Picture.lived(), 2);
        for (int number : outside) {
            fails(sentence + " " + number, NO_SUCH, x -> call.with(x, number));
        }
    }

    private static void noSuchGargoyle(String name, Numbered call) {
        noSuch(name + ": no such GARGOYLE", OUTSIDE, call);
    }

    private static void noSuchPerson(String name, Numbered call) {
        noSuch(name + ": no such PERSON", OUTSIDE, call);
    }

    /** Inside: 0 and last; outside: one below and one above, and far off. */
    private static void anotherWhat(String name, int last, Numbered call) {
        call.with(Picture.lived(), 0);
        call.with(Picture.lived(), last);
        for (int what : new int[] {-1, last + 1, LEAST, GREATEST}) {
            fails(name + ": another what " + what, NO_SUCH, x -> call.with(x, what));
        }
    }

    private static void notSoManyYears(String name, int least, int most, Numbered call) {
        call.with(Picture.lived(), least);
        call.with(Picture.lived(), most);
        for (int years : new int[] {least - 1, most + 1, LEAST, GREATEST}) {
            fails(name + ": not " + least + " to " + most + ": " + years, ILLEGAL, x -> call.with(x, years));
        }
    }

    private static GutterSeats fedTo(int bytes) {
        GutterSeats x = Picture.lived();
        for (int has = x.count(12); has < bytes; has += 20) {
            x.feed(0x20202020, 0x0a0a0a0a, 0x20202020, 0x20202020, 0x20202020);
        }
        return x;
    }

    private static void feed() {
        Check.same("feed: how many it has", fedTo(0).feed(1, 2, 3, 4, 5), 60);
        Check.same("feed: 700 are not more than 700", fedTo(680).feed(1, 2, 3, 4, 5), 700);
        refused("feed: none come, if it would have more than 700", () -> fedTo(700),
            x -> x.feed(0x23232323, 0, 0, 0, 0), NONE, NO_STATUS);
        GutterSeats x = fedTo(700);
        x.feed(0, 0, 0, 0, 0);
        Check.same("feed: 700 bytes of text are a tower", x.tower(700), 0);
        Check.same("feed: and its certain is told", x.count(4), 7);
        Check.same("feed: the tape takes more behind a tower", x.feed(0, 0, 0, 0, 0), 20);
    }

    private static void tower() {
        for (int n : new int[] {41, 700, GREATEST}) {
            fails("tower: the tape has not so many, " + n, ILLEGAL, x -> x.tower(n));
        }
        for (int n : new int[] {-1, LEAST}) {
            fails("tower: n below 0, " + n, ILLEGAL, x -> x.tower(n));
        }
        allows("tower: n is all that the tape has", x -> x.tower(40), 0);
        allows("tower: n is 0", x -> x.tower(0), 0);
        fails("tower: 1 of an empty tape", ILLEGAL, () -> Check.told("rain 1;"), x -> x.tower(1));
        Check.same("tower: 0 of an empty tape", new GutterSeats().tower(0), 0);
        towerWithFault();
        towerAnew();
    }

    private static void towerWithFault() {
        GutterSeats x = Picture.lived();
        Check.same("tower: the FAULT", x.tower(5), 1);
        Check.same("tower: the FAULT's place", x.fault(), 5);
        Check.same("tower: the tape is empty then", x.count(12), 0);
        Picture.same("tower: the FAULT (but STATUS)", Picture.memory(x, new int[] {1, 0, 0}),
            Picture.memory(Picture.lived(), NO_STATUS));
    }

    private static void towerAnew() {
        GutterSeats x = Picture.lived();
        Check.same("tower: 0", x.tower(30), 0);
        int[] due = {0, 1, 0, 5, 7, 0, 0, 0, 0, 0, 0, 0, 0, 1, 2, 3};
        for (int what = 0; what < due.length; what++) {
            Check.same("tower: all anew, but STATUS: count " + what, x.count(what), due[what]);
        }
        Check.same("fault: NONE without", x.fault(), NONE);
        Check.same("tower: ACTS are gone", x.undo(), NONE);
        Check.is("tower: the image is gone", !x.restore());
        int[] face = {1, 2, 3, NONE, NONE, 1};
        for (int what = 0; what < face.length; what++) {
            Check.same("tower: the new one's person " + what, x.person(0, what), face[what]);
        }
        Check.tell(x, "orphan 1 2 3;orphan 1 2 3;#");
        Check.tell(x, "person 1 2 3;person 1 2 3;");
        Check.same("tower: an orphan's place is no orphan's any more", x.person(0, 5), 0);
        Check.same("tower: nor is one of a text with a FAULT", x.person(1, 5), 0);
        GutterSeats rules = Picture.lived();
        rules.tower(0);
        Check.tell(rules, "gargoyle 5 5 9;person 5 3 1;");
        rules.years(1);
        Check.same("tower: WEARS is gone, RAIN is 3 again", rules.gargoyle(0, 2), 6);
        Check.same("tower: SITS is gone, UNLIKE by 2 will do", rules.person(0, 4), 0);
        Check.same("tower: CERTAIN is 30 again", rules.count(4), 30);
    }

    private static void count() {
        anotherWhat("count", 15, GutterSeats::count);
    }

    private static void gargoyle() {
        anotherWhat("gargoyle", 4, (x, what) -> x.gargoyle(2, what));
        noSuchGargoyle("gargoyle", (x, gargoyle) -> x.gargoyle(gargoyle, 0));
        fails("gargoyle: without GARGOYLES", NO_SUCH, GutterSeats::new, x -> x.gargoyle(0, 0));
    }

    private static void person() {
        anotherWhat("person", 5, (x, what) -> x.person(2, what));
        noSuchPerson("person", (x, person) -> x.person(person, 0));
        fails("person: without PEOPLE", NO_SUCH, GutterSeats::new, x -> x.person(0, 0));
    }

    private static GutterSeats inYear(int year) {
        GutterSeats x = Check.told("gargoyle 1 1 99;person 9 9 9;rain 0;");
        while (x.count(2) < year) {
            x.years(Math.min(20, year - x.count(2)));
        }
        return x;
    }

    private static void years() {
        allows("years: 1", x -> x.years(1), 4);
        allows("years: 20", x -> x.years(20), 23);
        for (int many : new int[] {0, 21, -1, LEAST, GREATEST, GREATEST - 2}) {
            refused("years: not 1 to 20, " + many, x -> x.years(many), NONE, AN_ACT);
        }
        Check.same("years: up to 999", inYear(990).years(9), 999);
        Check.same("years: 20 up to 999", inYear(979).years(20), 999);
        Check.same("years: it would be above 999", inYear(990).years(10), NONE);
        Check.same("years: 20 would be above 999", inYear(980).years(20), NONE);
        GutterSeats last = inYear(999);
        Check.same("years: 1 would be above 999", last.years(1), NONE);
        Check.same("years: the YEAR stays", last.count(2), 999);
        Check.same("years: STATUS 1", last.count(14), 1);
        Check.same("years: no ACT is kept of it", last.undo(), 39);
        Check.same("years: what was ahead", last.count(2), 980);
    }

    private static void cut() {
        noSuchGargoyle("cut", (x, gargoyle) -> x.cut(gargoyle, 1, 1));
        fails("cut: no such GARGOYLE, whatever the JAW", NO_SUCH, x -> x.cut(3, 10, -1));
        allows("cut: JAW and BROW 0", x -> x.cut(1, 0, 0), 48);
        allows("cut: JAW and BROW 9", x -> x.cut(2, 9, 9), 0);
        for (int face : new int[] {-1, 10, LEAST, GREATEST}) {
            refused("cut: jaw not 0 to 9, " + face, x -> x.cut(0, face, 9), NONE, AN_ACT);
            refused("cut: brow not 0 to 9, " + face, x -> x.cut(0, 0, face), NONE, AN_ACT);
            refused("cut: neither 0 to 9, " + face, x -> x.cut(2, face, face), NONE, AN_ACT);
        }
    }

    private static void call() {
        noSuchPerson("call", GutterSeats::call);
        Check.same("lived: the orphan sits", Picture.lived().person(1, 4), 1);
        Check.same("lived: person 2 doesn't sit", Picture.lived().person(2, 4), NONE);
        allows("call: where one sat", x -> x.call(1), 1);
        refused("call: nowhere", x -> x.call(2), NONE, AN_ACT);
    }

    private static void lift() {
        noSuchPerson("lift", (x, person) -> bit(x.lift(person, 2)));
        noSuchGargoyle("lift", (x, gargoyle) -> bit(x.lift(2, gargoyle)));
        fails("lift: (ahead) one sits already, no such GARGOYLE", NO_SUCH, x -> bit(x.lift(1, 3)));
        fails("lift: (ahead) somebody sits there, no such PERSON", NO_SUCH, x -> bit(x.lift(3, 1)));
        allows("lift: nobody sits there", x -> bit(x.lift(2, 2)), 1);
        refused("lift: one sits already", x -> bit(x.lift(1, 2)), 0, AN_ACT);
        refused("lift: somebody sits there", x -> bit(x.lift(2, 1)), 0, AN_ACT);
        refused("lift: one sits there oneself", x -> bit(x.lift(1, 1)), 0, AN_ACT);
    }

    private static void leave() {
        noSuchPerson("leave", (x, person) -> x.leave(person, 2));
        noSuch("leave: no such GARGOYLE (it may be NONE)", OUTSIDE_OR_NONE, (x, gargoyle) -> x.leave(2, gargoyle));
        allows("leave: for none", x -> x.leave(0, NONE), 0);
        allows("leave: for another one", x -> x.leave(2, 2), 1);
        refused("leave: it is so", x -> x.leave(0, 0), -2, AN_ACT);
        refused("leave: an orphan's is so", x -> x.leave(1, 1), -2, AN_ACT);
        GutterSeats x = Picture.lived();
        Check.same("leave: the GARGOYLE of it as it was", x.leave(1, NONE), 1);
        Check.same("leave: it is none already", x.leave(1, NONE), -2);
        Check.same("leave: STATUS 1", x.count(14), 3);
        Check.same("leave: as it was (NONE)", x.leave(1, 0), NONE);
    }

    private static void undo() {
        allows("undo: how many are left", GutterSeats::undo, 4);
        Supplier<GutterSeats> without = () -> {
            GutterSeats x = Check.told("gargoyle 1 1 9;person 1 1 1;");
            x.see(0, 0, 1);
            x.image();
            x.years(1);
            x.undo();
            return x;
        };
        refused("undo: there is none", without, GutterSeats::undo, NONE, NO_STATUS);
    }

    private static void questionsOfYears() {
        noSuchGargoyle("then", (x, gargoyle) -> x.then(gargoyle, 0, 0));
        anotherWhat("then", 3, (x, what) -> x.then(0, 60, what));
        notSoManyYears("then", 0, 60, (x, years) -> x.then(0, years, 3));
        fails("then: IllegalArgumentException behind no such GARGOYLE", NO_SUCH, x -> x.then(NONE, 61, 0));
        fails("then: IllegalArgumentException behind another what", NO_SUCH, x -> x.then(0, -1, 4));

        noSuchPerson("where", (x, person) -> x.where(person, 0, 0));
        anotherWhat("where", 5, (x, what) -> x.where(0, 60, what));
        notSoManyYears("where", 0, 60, (x, years) -> x.where(0, years, 5));
        fails("where: IllegalArgumentException behind no such PERSON", NO_SUCH, x -> x.where(NONE, 61, 0));
        fails("where: IllegalArgumentException behind another what", NO_SUCH, x -> x.where(0, -1, 6));

        noSuchGargoyle("loaf", GutterSeats::loaf);

        anotherWhat("later", 2, (x, what) -> x.later(60, what));
        notSoManyYears("later", 0, 60, (x, years) -> x.later(years, 2));
        fails("later: IllegalArgumentException behind another what", NO_SUCH, x -> x.later(61, 3));

        noSuchGargoyle("sat", (x, gargoyle) -> x.sat(gargoyle, 1));
        notSoManyYears("sat", 1, 60, (x, years) -> x.sat(2, years));
        fails("sat: IllegalArgumentException behind no such GARGOYLE", NO_SUCH, x -> x.sat(3, 0));

        noSuchPerson("fits", (x, person) -> x.fits(person, 0));
        noSuchGargoyle("fits", (x, gargoyle) -> x.fits(0, gargoyle));

        anotherWhat("greatest", 1, (x, what) -> x.greatest(60, what));
        notSoManyYears("greatest", 0, 60, (x, years) -> x.greatest(years, 1));
        fails("greatest: IllegalArgumentException behind another what", NO_SUCH, x -> x.greatest(61, 2));

        notSoManyYears("empty", 1, 60, GutterSeats::empty);
    }

    private static void questionsOfNow() {
        anotherWhat("unlike", 2, (x, what) -> x.unlike(2, 2, what));
        fails("unlike: another what, and none of these", NO_SUCH, x -> x.unlike(3, 3, 3));
        noSuchPerson("unlike, what 0", (x, person) -> x.unlike(person, 2, 0));
        noSuchGargoyle("unlike, what 0", (x, gargoyle) -> x.unlike(2, gargoyle, 0));
        noSuchGargoyle("unlike, what 1", (x, gargoyle) -> x.unlike(gargoyle, 2, 1));
        noSuchGargoyle("unlike, what 1", (x, gargoyle) -> x.unlike(2, gargoyle, 1));
        noSuchPerson("unlike, what 2", (x, person) -> x.unlike(person, 2, 2));
        noSuchPerson("unlike, what 2", (x, person) -> x.unlike(2, person, 2));
        Supplier<GutterSeats> two = () -> Check.told("gargoyle 1 1 9;gargoyle 2 2 9;person 3 3 3;");
        Check.same("unlike: the last PERSON and the last GARGOYLE", two.get().unlike(0, 1, 0), 2);
        fails("unlike: no PERSON 1, but a GARGOYLE 1", NO_SUCH, two, x -> x.unlike(1, 0, 0));
        fails("unlike: no PERSON 1 with what 2", NO_SUCH, two, x -> x.unlike(0, 1, 2));
        Supplier<GutterSeats> people = () -> Check.told("gargoyle 1 1 9;person 2 2 9;person 3 3 3;");
        Check.same("unlike: the last PERSON and the only GARGOYLE", people.get().unlike(1, 0, 0), 4);
        fails("unlike: no GARGOYLE 1, but a PERSON 1", NO_SUCH, people, x -> x.unlike(0, 1, 0));
        fails("unlike: no GARGOYLE 1 with what 1", NO_SUCH, people, x -> x.unlike(1, 0, 1));
    }

    private static void questionsOfSeats() {
        noSuch("seats: no such PERSON (NONE is how much)", OUTSIDE_OR_NONE, GutterSeats::seats);
        allows("seats: NONE is how much", x -> x.seats(NONE), 3 + 1 + 18);
        anotherWhat("turn", 1, GutterSeats::turn);
        noSuchPerson("lasts", (x, person) -> x.lasts(person, 0));
        noSuchGargoyle("lasts", (x, gargoyle) -> x.lasts(0, gargoyle));
        noSuchPerson("best", (x, person) -> x.best(person, 1, 0));
        anotherWhat("best", 1, (x, what) -> x.best(2, 60, what));
        notSoManyYears("best", 1, 60, (x, years) -> x.best(2, years, 1));
        fails("best: IllegalArgumentException behind no such PERSON", NO_SUCH, x -> x.best(3, 0, 0));
        fails("best: IllegalArgumentException behind another what", NO_SUCH, x -> x.best(0, 61, 2));
        Supplier<GutterSeats> without = () -> Check.told("person 1 1 1;");
        fails("best: not 1 to 60, also without GARGOYLES", ILLEGAL, without, x -> x.best(0, 0, 0));
    }

    private static GutterSeats seen(int many) {
        GutterSeats x = Picture.lived();
        while (x.count(11) < many) {
            x.see(1, 5, 1);
        }
        return x;
    }

    private static void see() {
        noSuchPerson("see", (x, person) -> x.see(person, 0, 0));
        fails("see: (ahead) no such PERSON, not 0 to 20, not 0 to 9", NO_SUCH, x -> x.see(3, 21, 10));
        fails("see: (ahead) no such PERSON, there are 8", NO_SUCH, () -> seen(8), x -> x.see(NONE, 0, 0));
        allows("see: behind 0 YEARS", x -> x.see(0, 0, 0), 3);
        allows("see: behind 20 YEARS", x -> x.see(0, 20, 9), 3);
        for (int years : new int[] {-1, 21, LEAST, GREATEST}) {
            refused("see: not 0 to 20, " + years, x -> x.see(0, years, 0), NONE, A_SIGHT);
        }
        for (int jaw : new int[] {-1, 10, LEAST, GREATEST}) {
            refused("see: not 0 to 9, " + jaw, x -> x.see(0, 0, jaw), NONE, A_SIGHT);
        }
        refused("see: refused once, whatever is wrong", x -> x.see(2, 21, 10), NONE, A_SIGHT);
        Check.same("see: the eighth one", seen(7).see(0, 0, 0), 8);
        refused("see: there are 8", () -> seen(8), x -> x.see(0, 0, 0), NONE, A_SIGHT);
        refused("see: there are 8, refused once", () -> seen(8), x -> x.see(0, 21, 0), NONE, A_SIGHT);
    }

    private static void oldAndLook() {
        anotherWhat("old", 2, GutterSeats::old);
        anotherWhat("look", 1, GutterSeats::look);
    }

    private static void wet() {
        noSuchGargoyle("wet", (x, gargoyle) -> x.wet(gargoyle, 1, 0));
        notSoManyYears("wet", 1, 5, (x, years) -> x.wet(0, years, 0));
        notSoManyYears("wet, tenths", 0, 10, (x, tenths) -> x.wet(0, 5, tenths));
        fails("wet: IllegalArgumentException behind no such GARGOYLE", NO_SUCH, x -> x.wet(3, 0, 5));
        fails("wet: IllegalArgumentException behind no such GARGOYLE", NO_SUCH, x -> x.wet(NONE, 1, 11));
    }

    private static void game() {
        for (int gargoyle : new int[] {3, NONE, LEAST, GREATEST}) {
            fails("game: no such GARGOYLE " + gargoyle, NO_SUCH, x -> x.game(gargoyle, 0, 0));
            fails("game: no such other " + gargoyle, NO_SUCH, x -> x.game(0, gargoyle, 0));
            fails("game: both are none of these " + gargoyle, NO_SUCH, x -> x.game(gargoyle, gargoyle, 0));
        }
        anotherWhat("game", 1, (x, what) -> x.game(0, 2, what));
        for (int gargoyle = 0; gargoyle < 3; gargoyle++) {
            int one = gargoyle;
            fails("game: both are one, " + one, ILLEGAL, x -> x.game(one, one, 1));
            fails("game: IllegalArgumentException behind another what", NO_SUCH, x -> x.game(one, one, 2));
        }
    }

    private static void ages() {
        anotherWhat("ages", 2, (x, what) -> x.ages(1, 60, what));
        notSoManyYears("ages", 0, 60, (x, n) -> x.ages(1, n, 2));
        fails("ages: IllegalArgumentException behind another what", NO_SUCH, x -> x.ages(1, 61, 3));
    }

    private static void restore() {
        Supplier<GutterSeats> without = () -> {
            GutterSeats x = Check.told("gargoyle 1 1 9;person 1 1 1;");
            x.see(0, 0, 1);
            x.years(1);
            x.years(0);
            return x;
        };
        refused("restore: there is none", without, x -> bit(x.restore()), 0, NO_STATUS);
        Supplier<GutterSeats> gone = () -> {
            GutterSeats x = Picture.lived();
            x.tower(30);
            x.years(1);
            return x;
        };
        refused("restore: it is gone by tower()", gone, x -> bit(x.restore()), 0, NO_STATUS);
        allows("restore: there is one", x -> bit(x.restore()), 1);
    }

    /** Questions and image() leave all as it was; so does all that is asked of YEARS to come. */
    private static void questionsChangeNothing() {
        Call[] questions = {
            GutterSeats::fault, x -> x.count(0), x -> x.gargoyle(0, 0), x -> x.person(0, 0),
            x -> x.then(0, 60, 0), x -> x.where(0, 60, 4), x -> x.loaf(1), x -> x.later(60, 2), x -> x.sat(0, 60),
            x -> x.fits(0, 0), x -> x.unlike(0, 0, 0), x -> x.seats(NONE), x -> x.seats(0), x -> x.turn(0),
            x -> x.lasts(2, 1), x -> x.best(1, 60, 0), x -> x.greatest(60, 0), x -> x.empty(60),
            GutterSeats::homes, x -> x.old(0), x -> x.old(2), x -> x.look(0), x -> x.wet(1, 5, 5),
            x -> x.game(0, 1, 0), x -> x.ages(77, 60, 0)};
        String due = Picture.whole(Picture.lived(), NO_STATUS);
        for (int i = 0; i < questions.length; i++) {
            GutterSeats x = Picture.lived();
            questions[i].applyAsInt(x);
            Picture.same("question " + i, Picture.whole(x, NO_STATUS), due);
        }
    }
}

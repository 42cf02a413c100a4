/** "==== 3." and "==== 4.": each question at its bounds: the least and the greatest number of years,
    of like ones the least, none, nobody and nowhere, without gargoyles and without people. */
public final class QuestionBoundsTest {
    private static final int NONE = GutterSeats.NONE;
    private static final String STONES = "gargoyle 1 1 9;gargoyle 5 5 9;";
    private static final String PEOPLE = "person 1 1 9;person 5 5 9;";

    public static void main(String[] args) {
        then();
        where();
        mostLike();
        loaf();
        later();
        sat();
        fits();
        twins();
        longestRow();
        familyBits();
        seats();
        turn();
        lasts();
        best();
        greatest();
        empty();
        homes();
        seen();
        oldAges();
        oldFirst();
        oldWithout();
        lookNext();
        lookOfEight();
        lookBehindSixYears();
        wet();
        game();
        gameGains();
        ages();
        agesByDraws();
        agesOfOne();
        seedThatWraps();
        image();
        withoutGargoyles();
        withoutPeople();
        Check.end();
    }

    private static void then() {
        GutterSeats x = Check.told("gargoyle 9 8 60;gargoyle 7 6 61;orphan 7 6 1;rain 1;sits age=61;");
        Check.same("THEN behind 0 YEARS is now: STONE", x.then(0, 0, 0), 60);
        Check.same("JAW", x.then(0, 0, 1), 9);
        Check.same("BROW", x.then(0, 0, 2), 8);
        Check.same("nobody", x.then(0, 0, 3), NONE);
        Check.same("behind 59 YEARS", x.then(0, 59, 0), 1);
        Check.same("behind 60 YEARS", x.then(0, 60, 0), 0);
        Check.same("a LOAF's JAW behind 60", x.then(0, 60, 1), 0);
        Check.same("a LOAF's BROW behind 60", x.then(0, 60, 2), 0);
        Check.same("JAW behind 59", x.then(0, 59, 1), 9);
        Check.same("BROW behind 59", x.then(0, 59, 2), 8);
        Check.same("the other one behind 60", x.then(1, 60, 0), 1);
        Check.same("who sits there behind 60", x.then(1, 60, 3), 0);
        Check.same("nobody behind 59", x.then(1, 59, 3), NONE);
        Check.same("from now on", aged(x, 1).then(0, 59, 0), 0);
    }

    private static GutterSeats aged(GutterSeats x, int years) {
        x.years(years);
        return x;
    }

    private static void where() {
        GutterSeats x = Check.told("gargoyle 9 0 99;person 5 5 39 of 0;rain 0;certain 99;sits age=99;");
        Check.same("WHERE behind 0: nowhere", x.where(0, 0, 0), NONE);
        Check.same("AGE behind 0", x.where(0, 0, 3), 39);
        Check.same("AGE behind 59", x.where(0, 59, 3), 98);
        Check.same("AGE behind 60", x.where(0, 60, 3), 99);
        Check.same("JAW behind 59", x.where(0, 59, 1), 5);
        Check.same("JAW behind 60", x.where(0, 60, 1), 6);
        Check.same("BROW behind 59", x.where(0, 59, 2), 5);
        Check.same("BROW behind 60", x.where(0, 60, 2), 4);
        Check.same("nowhere behind 59", x.where(0, 59, 0), NONE);
        Check.same("WHERE behind 60", x.where(0, 60, 0), 0);
        Check.same("how UNLIKE behind 59", x.where(0, 59, 5), 9);
        Check.same("how UNLIKE behind 60", x.where(0, 60, 5), 7);
    }

    private static void mostLike() {
        GutterSeats x = Check.told("gargoyle 9 9 1;gargoyle 5 5 99;gargoyle 3 3 99;orphan 4 4 1;orphan 1 0 1;rain 1;");
        Check.same("MOST LIKE: of like ones the least", x.where(0, 0, 4), 1);
        Check.same("how UNLIKE", x.where(0, 0, 5), 2);
        Check.same("the least UNLIKE one", x.where(1, 0, 4), 2);
        Check.same("how UNLIKE", x.where(1, 0, 5), 5);
        Check.same("then the first one is a LOAF", x.where(1, 1, 4), 0);
        Check.same("how UNLIKE then", x.where(1, 1, 5), 1);
        x.lift(0, 2);
        Check.same("whoever sits there", x.where(1, 0, 4), 2);
    }

    private static void loaf() {
        GutterSeats x = Check.told("gargoyle 1 1 0;gargoyle 1 1 1;gargoyle 1 1 59;gargoyle 1 1 60;gargoyle 1 1 61;rain 1;");
        int[] due = {0, 1, 59, 60, NONE};
        for (int gargoyle = 0; gargoyle < due.length; gargoyle++) {
            Check.same("LOAF: behind 0 to 60 YEARS; none", x.loaf(gargoyle), due[gargoyle]);
        }
    }

    private static void later() {
        GutterSeats x = Check.told("gargoyle 1 1 60;gargoyle 9 9 61;orphan 9 9 1;orphan 9 9 1;rain 1;sits age=61;");
        Check.same("LOAVES behind 0", x.later(0, 0), 0);
        Check.same("LOAVES behind 59", x.later(59, 0), 0);
        Check.same("LOAVES behind 60 (bits)", x.later(60, 0), 1);
        Check.same("who sits behind 59", x.later(59, 1), 0);
        Check.same("who sits behind 60: one in the nearest place, one in the other", x.later(60, 1), 3);
        Check.same("STONE of all behind 0", x.later(0, 2), 121);
        Check.same("STONE of all behind 60", x.later(60, 2), 1);
        GutterSeats all = Check.told("gargoyle 1 1 99;".repeat(8) + "orphan 1 1 1;".repeat(8) + "wears 0;");
        Check.same("STONE of all 8", all.later(60, 2), 792);
        Check.same("all 8 sit (bits)", all.later(1, 1), 255);
        GutterSeats loaves = Check.told("gargoyle 1 1 0;".repeat(8));
        Check.same("all 8 are LOAVES (bits)", loaves.later(0, 0), 255);
        Check.same("all 8 are LOAVES: how many", loaves.count(5), 8);
    }

    private static void sat() {
        GutterSeats x = Check.told(STONES + "orphan 1 1 1;rain 0;sits age=61 or age=2;");
        Check.same("SAT in 1 of 1", x.sat(0, 1), 1);
        Check.same("in 1 of 59", x.sat(0, 59), 1);
        Check.same("in 2 of 60: that of the end counts", x.sat(0, 60), 2);
        Check.same("in none of 60", x.sat(1, 60), 0);
        GutterSeats lifted = Check.told(STONES + "orphan 1 1 1;rain 0;sits 0;");
        lifted.lift(0, 0);
        Check.same("at the end, not at the beginning", lifted.sat(0, 1), 0);
        GutterSeats stays = Check.told(STONES + "orphan 1 1 1;rain 0;sits unlike=8;");
        stays.lift(0, 1);
        Check.same("LIFTED UP or not", stays.sat(1, 60), 60);
    }

    private static void fits() {
        String gargoyle = "gargoyle 2 1 99;rain 0;";
        Check.same("FITS behind 0", Check.told(gargoyle + "orphan 2 1 1;").fits(0, 0), 0);
        Check.same("behind 1", Check.told(gargoyle + "person 1 1 0 of 0;certain 1;").fits(0, 0), 1);
        Check.same("behind 60", Check.told(gargoyle + "person 1 1 0 of 0;certain 60;").fits(0, 0), 60);
        Check.same("not within 60", Check.told(gargoyle + "person 1 1 0 of 0;certain 61;").fits(0, 0), NONE);
        Check.same("JAW alone isn't enough", Check.told(gargoyle + "orphan 2 0 1;").fits(0, 0), NONE);
        Check.same("BROW alone isn't enough", Check.told(gargoyle + "orphan 3 1 1;").fits(0, 0), NONE);
        // A loaf fits one of 0 and 0 at first, and then no more.
        Check.same("first", Check.told("gargoyle 9 9 6;orphan 0 0 1;").fits(0, 0), 2);
        Check.same("now is ahead of all", Check.told("gargoyle 4 4 6;orphan 4 4 1;").fits(0, 0), 0);
    }

    private static void twins() {
        Check.same("TWINS without PEOPLE", Check.told(STONES).count(8), 0);
        Check.same("of one alone", Check.told("person 1 1 1;").count(8), 0);
        Check.same("of one alone, of 0 and 0", Check.told("person 0 0 1;").count(8), 0);
        Check.same("GARGOYLES are no PEOPLE", Check.told("gargoyle 1 1 9;".repeat(8) + "person 1 1 1;").count(8), 0);
        Check.same("of two", Check.told("person 1 2 1;orphan 1 2 9;").count(8), 1);
        Check.same("UNLIKE by 1", Check.told("person 1 2 1;orphan 1 3 9;").count(8), 0);
        Check.same("UNLIKE by 1 and 1", Check.told("person 1 2 1;orphan 2 1 9;").count(8), 0);
        Check.same("of eight", Check.told("person 1 2 1;".repeat(8)).count(8), 28);
        Check.same("two couples", Check.told("person 1 2 1;person 3 4 1;person 1 2 1;person 3 4 1;").count(8), 2);
        Check.same("the first and the last", Check.told("person 1 2 1;person 3 4 1;person 1 2 1;").count(8), 1);
    }

    private static int row(String stones) {
        StringBuilder text = new StringBuilder();
        for (char sign : stones.toCharArray()) {
            text.append("gargoyle 1 1 ").append(sign == 'o' ? 0 : 1).append(';');
        }
        return Check.told(text.toString()).count(9);
    }

    private static void longestRow() {
        Check.same("without GARGOYLES", row(""), 0);
        Check.same("no LOAF", row("xxx"), 0);
        Check.same("one alone, no LOAF", row("x"), 0);
        Check.same("all: one", row("o"), 1);
        Check.same("all: two", row("oo"), 2);
        Check.same("all: eight", row("oooooooo"), 8);
        Check.same("all but one", row("ooooooox"), 7);
        Check.same("all but one, within", row("oooxoooo"), 7);
        Check.same("all but the first", row("xooooooo"), 7);
        Check.same("round the tower", row("oxxxxxxo"), 2);
        Check.same("round the tower, of three", row("oxo"), 2);
        Check.same("the first alone", row("oxx"), 1);
        Check.same("the last alone", row("xxo"), 1);
        Check.same("the longest of three rows", row("oxooxxoo"), 3);
        Check.same("the one within", row("oxoooxxo"), 3);
    }

    private static void familyBits() {
        GutterSeats x = Check.told(STONES + "orphan 1 1 1 of 1;".repeat(8));
        Check.same("FAMILY: nobody's", x.gargoyle(0, 4), 0);
        Check.same("FAMILY: all of 8", x.gargoyle(1, 4), 255);
        x.leave(7, 0);
        x.leave(0, NONE);
        Check.same("FAMILY of the one", x.gargoyle(0, 4), 128);
        Check.same("FAMILY of the other", x.gargoyle(1, 4), 126);
    }

    private static void row(String sentence, String text, int much, int... places) {
        GutterSeats x = Check.told(text);
        Check.same(sentence + ": how much", x.seats(NONE), much);
        for (int person = 0; person < places.length; person++) {
            Check.same(sentence + ": where " + person, x.seats(person), places[person]);
        }
    }

    private static void seats() {
        row("without both", "", 0);
        row("without PEOPLE", STONES, 0);
        row("without GARGOYLES", PEOPLE, 0, NONE, NONE);
        row("as many as there are", STONES + PEOPLE, 0, 0, 1);
        row("PEOPLE are fewer", STONES + "person 5 4 1;", 1, 1);
        row("GARGOYLES are fewer", "gargoyle 5 5 1;" + PEOPLE, 0, NONE, 0);
        row("nobody may be left out to make it less", "gargoyle 1 1 1;gargoyle 9 9 1;person 1 1 1;person 1 1 1;", 16, 0, 1);
        row("of like ones the first row", "gargoyle 3 3 1;gargoyle 3 3 1;person 1 1 1;person 5 5 1;", 8, 0, 1);
        row("nowhere behind all", "gargoyle 3 3 1;person 2 3 1;person 3 2 1;", 1, 0, NONE);
        row("a place is nobody else's, however like", "gargoyle 3 3 1;person 3 3 1;person 3 3 1;", 0, 0, NONE);
        row("nor is the second place", "gargoyle 9 9 1;gargoyle 3 3 1;person 3 3 1;person 3 3 1;person 9 9 1;", 0, 1, NONE, 0);
        row("there is no place behind the last", "gargoyle 5 5 1;person 0 0 1;person 5 5 1;", 0, NONE, 0);
        row("nowhere behind all, of three", "gargoyle 3 3 1;gargoyle 3 3 1;" + "person 2 3 1;".repeat(3), 2, 0, 1, NONE);
        row("the first row, not the nearest for each", "gargoyle 3 3 1;gargoyle 3 4 1;person 3 4 1;person 3 5 1;", 2, 0, 1);
        row("least for all together", "gargoyle 3 3 1;gargoyle 3 5 1;person 3 4 1;person 3 1 1;", 3, 1, 0);
        row("as much as may be", "gargoyle 0 0 1;".repeat(8) + "person 9 9 1;".repeat(8), 144, 0, 1, 2, 3, 4, 5, 6, 7);
        row("eight by one", "gargoyle 0 0 1;" + "person 9 9 1;".repeat(7) + "person 8 9 1;", 17,
            NONE, NONE, NONE, NONE, NONE, NONE, NONE, 0);
        GutterSeats x = Check.told(STONES + PEOPLE);
        x.lift(0, 1);
        x.lift(1, 0);
        Check.same("whoever sits now: how much", x.seats(NONE), 0);
        Check.same("whoever sits now: where", x.seats(1), 1);
    }

    private static void turned(String sentence, String text, int which, int much) {
        GutterSeats x = Check.told(text);
        Check.same(sentence + ": which", x.turn(0), which);
        Check.same(sentence + ": how much", x.turn(1), much);
    }

    private static void turn() {
        turned("no GARGOYLES", PEOPLE, NONE, NONE);
        turned("neither", "", NONE, NONE);
        turned("without PEOPLE", STONES, 0, 0);
        turned("0", STONES + PEOPLE, 0, 0);
        turned("1", STONES + "person 5 5 9;person 1 1 9;", 1, 0);
        turned("one GARGOYLE alone", "gargoyle 1 1 9;" + PEOPLE, 0, 8);
        String eight = "";
        for (int i = 0; i < 8; i++) {
            eight += "gargoyle " + i + " 0 9;";
        }
        turned("less than there are GARGOYLES", eight + "person 7 0 1;person 0 0 1;", 7, 0);
        turned("of like ones the least", "gargoyle 1 1 9;gargoyle 4 4 9;gargoyle 4 4 9;person 4 4 1;", 1, 0);
        turned("all are like", "gargoyle 1 1 9;gargoyle 1 1 9;person 4 4 1;", 0, 6);
        turned("MOD: PERSON 2 with GARGOYLE 0 again", STONES + PEOPLE + "person 1 2 9;", 0, 1);
        turned("MOD: with a TURN", STONES + "person 5 5 9;person 1 1 9;person 5 7 1;", 1, 2);
        GutterSeats x = Check.told(STONES + PEOPLE);
        x.lift(0, 1);
        Check.same("whoever sits", x.turn(0), 0);
    }

    private static void lasts() {
        String text = "gargoyle 1 1 59;gargoyle 9 9 60;gargoyle 5 5 0;orphan 1 9 1;rain 1;sits 0;";
        GutterSeats x = Check.told(text);
        Check.same("LASTS: behind 0, a LOAF now", x.lasts(0, 2), 0);
        Check.same("behind 60: one year more than without", x.lasts(0, 0), 60);
        Check.same("none within 60", x.lasts(0, 1), NONE);
        Check.same("without one", x.loaf(1), 60);
        GutterSeats stays = Check.told("gargoyle 1 1 6;gargoyle 9 9 6;orphan 1 1 1;orphan 1 2 1;");
        Check.same("who stays: none", stays.lasts(0, 0), NONE);
        Check.same("who leaves behind a year", stays.lasts(0, 1), 3);
        stays.lift(0, 0);
        Check.same("who sits there already stays", stays.lasts(0, 0), NONE);
        Check.same("whoever else sits there is CALLED DOWN first", stays.lasts(1, 0), NONE);
        // Person 0, who is like it, is called down for person 1, who leaves behind a year: one year of rain.
        GutterSeats down = Check.told("gargoyle 1 1 3;orphan 1 1 1;orphan 9 9 1;");
        down.lift(0, 0);
        Check.same("as it is", down.loaf(0), NONE);
        Check.same("whoever else sits there has left the place", down.lasts(1, 0), 2);
        Check.same("now one sits there still", down.gargoyle(0, 3), 0);
        // Both at once: person 0 is called down from 1, person 1 from 0; each keeps the rain off a year.
        GutterSeats both = Check.told("gargoyle 1 1 6;gargoyle 9 9 6;orphan 5 5 1;orphan 5 6 1;sits 0;");
        both.lift(0, 1);
        both.lift(1, 0);
        Check.same("one is CALLED DOWN elsewhere", both.lasts(0, 0), 3);
        Check.same("the place where one sits already", both.lasts(0, 1), 3);
    }

    private static void best() {
        String text = "gargoyle 1 1 50;gargoyle 9 9 50;orphan 5 5 1;rain 1;sits 0;";
        GutterSeats x = Check.told(text);
        Check.same("of like ones the least", x.best(0, 1, 0), 0);
        Check.same("STONE of all behind 1", x.best(0, 1, 1), 99);
        Check.same("STONE of all behind 60", x.best(0, 60, 1), 0);
        Check.same("of like ones the least behind 60", x.best(0, 60, 0), 0);
        GutterSeats second = Check.told("gargoyle 1 1 0;gargoyle 9 9 60;orphan 5 5 1;rain 1;sits 0;");
        Check.same("the one that is left behind 60", second.best(0, 60, 0), 1);
        Check.same("STONE of all: 1", second.best(0, 60, 1), 1);
        second.lift(0, 1);
        Check.same("who sits there already", second.best(0, 60, 0), 1);
        GutterSeats none = Check.told("person 1 1 1;");
        Check.same("no GARGOYLES behind 1", none.best(0, 1, 0), NONE);
        Check.same("no GARGOYLES behind 60", none.best(0, 60, 1), NONE);
        GutterSeats down = Check.told("gargoyle 1 1 3;orphan 1 1 1;orphan 9 9 1;");
        down.lift(0, 0);
        Check.same("whoever else sits there has left the place", down.best(1, 2, 1), 0);
        Check.same("who sits there already stays", down.best(0, 60, 1), 3);
        GutterSeats away = Check.told("gargoyle 1 1 50;gargoyle 9 9 40;orphan 5 5 1;orphan 5 5 1;wears stone/10;sits 0;");
        away.lift(1, 0);
        Check.same("whoever else sits there is CALLED DOWN: where both are dry", away.best(0, 1, 0), 1);
        Check.same("50 and 40", away.best(0, 1, 1), 90);
    }

    private static void greatest() {
        GutterSeats x = Check.told("gargoyle 1 1 60;gargoyle 5 5 60;gargoyle 9 9 60;orphan 1 1 38;orphan 5 5 39;"
            + "orphan 8 1 99;rain 1;sits unlike=0 and 38<age;");
        Check.same("nobody sits behind 0", x.greatest(0, 0), NONE);
        Check.same("who is oldest of those who sit, not of all", x.greatest(1, 0), 1);
        Check.same("both are 99 behind 61: 98 and 99 behind 60", x.greatest(60, 0), 1);
        Check.same("most STONE behind 0: of like ones the least", x.greatest(0, 1), 0);
        Check.same("most STONE behind 1: none sat in its rain yet", x.greatest(1, 1), 0);
        Check.same("most STONE behind 60: those who sat", x.greatest(60, 1), 0);
        x.years(1);
        Check.same("of like AGES the least", x.greatest(60, 0), 0);
        GutterSeats last = Check.told("gargoyle 1 1 59;gargoyle 5 5 60;rain 1;");
        Check.same("the second has more", last.greatest(0, 1), 1);
        Check.same("the second has 1 behind 59", last.greatest(59, 1), 1);
        Check.same("all are LOAVES behind 60: the least", last.greatest(60, 1), 0);
    }

    private static void empty() {
        GutterSeats x = Check.told(STONES + "orphan 1 1 1;rain 0;sits age=61 or age=2;");
        Check.same("in none of 1", x.empty(1), 0);
        Check.same("in 58 of 59", x.empty(59), 58);
        Check.same("in 58 of 60", x.empty(60), 58);
        Check.same("without PEOPLE in all", Check.told(STONES).empty(60), 60);
        Check.same("without GARGOYLES in all", Check.told(PEOPLE).empty(60), 60);
        GutterSeats lifted = Check.told(STONES + "orphan 9 9 1;sits 0;");
        lifted.lift(0, 0);
        Check.same("at the end, not at the beginning", lifted.empty(1), 1);
        Check.same("somebody sits somewhere", Check.told(STONES + PEOPLE + "rain 0;sits unlike=0;").empty(60), 0);
    }

    private static void homes() {
        GutterSeats x = Check.told("gargoyle 1 1 9;".repeat(8) + "person 1 1 1 of 7;".repeat(8));
        Check.same("nobody sits", x.homes(), 0);
        x.years(1);
        Check.same("only the last one sits there", x.homes(), 128);
        for (int person = 0; person < 7; person++) {
            x.leave(person, person);
        }
        Check.same("all of 8", x.homes(), 255);
        x.leave(0, NONE);
        Check.same("without a FAMILY", x.homes(), 254);
        GutterSeats none = Check.told(STONES + PEOPLE);
        Check.same("nowhere isn't the GARGOYLE of no FAMILY", none.homes(), 0);
        GutterSeats away = Check.told(STONES + "orphan 1 1 1 of 1;");
        away.lift(0, 0);
        Check.same("at another one", away.homes(), 0);
        away.call(0);
        away.lift(0, 1);
        Check.same("an orphan at that of the FAMILY", away.homes(), 1);
    }

    private static void seen() {
        GutterSeats x = Check.told(PEOPLE);
        for (int i = 1; i <= 8; i++) {
            Check.same("how much is SEEN", x.see(i % 2, 20, 9), i);
        }
        Check.same("there are 8", x.see(0, 0, 1), NONE);
        Check.same("STATUS 2", x.count(15), 1);
        Check.same("at most 8", x.count(11), 8);
        x.forget();
        Check.same("all is forgotten", x.count(11), 0);
        Check.same("the first one again", x.see(0, 0, 1), 1);
        Check.same("what was forgotten doesn't count", x.old(2), 1);
        x.forget();
        x.forget();
        Check.same("nothing to forget", x.count(11), 0);
        Check.same("STATUS stays", x.count(15), 1);
    }

    /** The jaw of one of certain 99 comes nearer only if one is 99 by then. */
    private static void oldAges() {
        GutterSeats x = Check.told("gargoyle 9 9 99;person 0 0 0 of 0;certain 99;rain 0;");
        x.see(0, 1, 1);
        Check.same("AGES up to 99: 98 and 99", x.old(0), 2);
        Check.same("the first is 98", x.old(1), 98);
        x.see(0, 2, 2);
        Check.same("both still", x.old(0), 2);
        GutterSeats last = Check.told("gargoyle 9 9 99;person 0 0 98 of 0;certain 99;rain 0;");
        last.see(0, 1, 1);
        Check.same("another one than one has: 99 alone", last.old(0), 1);
        Check.same("which is 99", last.old(1), 99);
        Check.same("it is so without", last.old(2), 1);
        GutterSeats first = Check.told("gargoyle 9 9 99;person 0 0 50 of 0;certain 1;rain 0;sits 0;");
        Check.same("AGES from 0 on, nothing is SEEN", first.old(1), 0);
        Check.same("all but one's own", first.old(0), 99);
        GutterSeats zero = Check.told("gargoyle 9 9 99;person 0 0 0 of 0;certain 1;rain 0;sits 0;");
        Check.same("0 is one's own", zero.old(1), 1);
        Check.same("all but one's own", zero.old(0), 99);
        GutterSeats most = Check.told("person 1 1 0;".repeat(8));
        Check.same("8 PEOPLE by 99 AGES", most.old(0), 792);
        Check.same("the first", most.old(1), 1);
        Check.same("without PEOPLE none", Check.told(STONES).old(0), 0);
        Check.same("without PEOPLE no first", Check.told(STONES).old(1), NONE);
        Check.same("without PEOPLE it is so", Check.told(STONES).old(2), 1);
    }

    private static void oldFirst() {
        String people = "orphan 3 3 3;".repeat(7) + "person 0 0 0 of 0;";
        GutterSeats x = Check.told("gargoyle 9 9 99;" + people + "certain 99;rain 0;");
        x.see(7, 20, 3);
        Check.same("100 by who, and AGE", x.old(1), 700 + 81);
        Check.same("one alone", x.old(0), 1);
        Check.same("it isn't so without", x.old(2), 0);
        x.see(7, 0, 1);
        Check.same("all SEEN must be so", x.old(0), 0);
        Check.same("none", x.old(1), NONE);
        Check.same("nor without", x.old(2), 0);
    }

    private static void oldWithout() {
        GutterSeats x = Check.told("gargoyle 9 9 99;person 0 0 20 of 0;certain 40;rain 0;");
        x.see(0, 0, 0);
        Check.same("behind 0 YEARS", x.old(2), 1);
        x.see(0, 20, 1);
        Check.same("behind 20 YEARS one is 40", x.old(2), 1);
        x.years(1);
        Check.same("from now on", x.old(2), 0);
        x.undo();
        x.see(0, 19, 1);
        Check.same("behind 19 YEARS one isn't", x.old(2), 0);
        x.forget();
        x.see(0, 20, 2);
        Check.same("no more than 1 by then", x.old(2), 0);
        Check.same("but were one 21", x.old(1), 21);
    }

    private static void lookNext() {
        String text = "gargoyle 1 1 99;gargoyle 8 8 99;";
        String rules = "rain 0;sits age<50 and unlike<3;";
        GutterSeats x = Check.told(text + "orphan 1 1 5;orphan 8 8 5;" + rules);
        Check.same("of like ones the least", x.look(0), 0);
        Check.same("nowhere is one, too", x.look(1), 2);
        GutterSeats second = Check.told(text + "orphan 9 0 5;orphan 8 8 5;" + rules);
        Check.same("who sits in most places", second.look(0), 1);
        Check.same("how many", second.look(1), 2);
        GutterSeats still = Check.told(text + "orphan 9 0 5;orphan 9 0 5;" + rules);
        Check.same("all are nowhere: the least", still.look(0), 0);
        Check.same("one place: nowhere", still.look(1), 1);
        still.see(0, 0, 1);
        Check.same("none without any", still.look(0), NONE);
        Check.same("0: none", still.look(1), 0);
        Check.same("without PEOPLE", Check.told(STONES).look(0), NONE);
        Check.same("without PEOPLE", Check.told(STONES).look(1), 0);
        // Whether person 0 sits at 1 is what person 1 waits for: three places are met for person 1.
        GutterSeats three = Check.told("gargoyle 1 1 99;gargoyle 3 3 99;orphan 1 1 5;orphan 1 1 5;rain 0;sits age<50;");
        Check.same("who sits in 0, in 1, nowhere", three.look(0), 1);
        Check.same("three places", three.look(1), 3);
        // By the ages that OLD finds alone: as it is, person 0 sits at 0, which is not counted.
        GutterSeats alone = Check.told("gargoyle 9 9 99;person 0 0 20 of 0;certain 40;rain 0;sits age<30;");
        alone.see(0, 10, 5);
        Check.same("one AGE alone, 34", alone.old(0), 1);
        Check.same("one place by it", alone.look(1), 1);
    }

    private static void lookOfEight() {
        GutterSeats x = Check.told("gargoyle 1 1 99;" + "orphan 9 9 5;".repeat(7) + "orphan 1 1 5;rain 0;sits age<50 and unlike<3;");
        Check.same("the last of 8", x.look(0), 7);
        Check.same("two places", x.look(1), 2);
        GutterSeats all = Check.told("gargoyle 1 1 99;".repeat(8) + "orphan 1 1 5;".repeat(8) + "rain 0;sits age<50;");
        // Each of those ahead may be nowhere, so that the one behind sits one place further on.
        Check.same("in one's own place, in the one before, nowhere", all.look(1), 3);
        Check.same("the first of these", all.look(0), 1);
        // One sits in the first year, if one is 99 by then, and stays where the stone has been kept since.
        String text = "gargoyle 1 1 50;orphan 1 1 98;sits year=0 and age=99 or 0<year and stone=47;";
        Check.same("AGE of 99, which isn't one's own", Check.told(text).look(1), 2);
        Check.same("98, were one's own 99", Check.told(text.replace("98", "99")).look(1), 2);
        Check.same("neither is 99 in the first year", Check.told(text.replace("age=99", "age=100")).look(1), 1);
    }

    private static void lookBehindSixYears() {
        // What is seen behind 20 years holds for any age; who sits behind 6 (not 26) years is asked.
        GutterSeats seen = Check.told("gargoyle 1 1 99;orphan 1 1 5;rain 0;sits year=5 and age<50;");
        seen.see(0, 20, 1);
        Check.same("behind 6 YEARS from now on", seen.look(1), 2);
        GutterSeats late = Check.told("gargoyle 1 1 99;orphan 1 1 5;rain 0;sits 20<year and age<90;");
        late.see(0, 20, 1);
        Check.same("nobody sits behind 6 YEARS", late.look(1), 1);
        GutterSeats x = Check.told("gargoyle 1 1 99;orphan 1 1 5;rain 0;sits year=5;");
        Check.same("behind 6 YEARS one sits, whatever one's AGE", x.look(1), 1);
        GutterSeats sixth = Check.told("gargoyle 1 1 99;orphan 1 1 50;rain 0;sits age=6;");
        Check.same("AGE of 0 is 6 behind 6 YEARS", sixth.look(1), 2);
        GutterSeats seventh = Check.told("gargoyle 1 1 99;orphan 1 1 50;rain 0;sits age<6;");
        Check.same("no AGE is below 6 then", seventh.look(1), 1);
    }

    private static void wet() {
        GutterSeats x = Check.told("gargoyle 1 1 9;gargoyle 1 1 10;gargoyle 1 1 45;gargoyle 1 1 46;gargoyle 1 1 0;rain 5;");
        Check.same("9 in a wet YEAR: a LOAF", x.wet(0, 1, 4), 4);
        Check.same("9 of 10: no LOAF", x.wet(1, 1, 10), 0);
        Check.same("two of two", x.wet(1, 2, 4), 16);
        Check.same("five of five", x.wet(2, 5, 10), 100000);
        Check.same("five of five with 1 tenth", x.wet(2, 5, 1), 1);
        Check.same("46 isn't worn by five", x.wet(3, 5, 10), 0);
        Check.same("four aren't enough for 45", x.wet(2, 4, 10), 0);
        Check.same("0 in a dry YEAR, whatever was told", x.wet(0, 5, 0), 0);
        Check.same("of 10", x.wet(4, 1, 0), 10);
        Check.same("of 10 to the power of 5", x.wet(4, 5, 7), 100000);
        Check.same("one of five, at least", x.wet(0, 5, 1), 100000 - 59049);
        Check.same("one of five, at least", x.wet(0, 5, 9), 99999);
        GutterSeats sits = Check.told("gargoyle 1 1 18;orphan 1 1 1;rain 0;sits year=0;");
        Check.same("one sits behind the first YEAR, for the second", sits.wet(0, 2, 10), 0);
        Check.same("and not for the third", sits.wet(0, 3, 10), 1000);
        GutterSeats rule = Check.told("gargoyle 1 1 4;gargoyle 1 1 5;gargoyle 1 1 6;wears 1;");
        Check.same("so many YEARS, no less", rule.wet(1, 5, 0), 100000);
        Check.same("so many YEARS, no more", rule.wet(2, 5, 10), 0);
        Check.same("four of four", rule.wet(0, 4, 3), 10000);
        Check.same("four aren't five", rule.wet(1, 4, 3), 0);
        GutterSeats both = Check.told("gargoyle 1 1 10;gargoyle 1 1 2;rain 7;wears rain+1;");
        Check.same("RAIN is 9 in a wet YEAR", both.wet(0, 1, 3), 3);
        Check.same("RAIN is 0 in a dry one", both.wet(1, 2, 0), 100);
        Check.same("so that one isn't enough", both.wet(1, 1, 0), 0);
        GutterSeats later = Check.told("gargoyle 1 1 9;rain 9;");
        Check.same("from now on", aged(later, 1).wet(0, 1, 0), 10);
    }

    private static void game() {
        GutterSeats x = Check.told("gargoyle 1 1 9;gargoyle 9 9 9;wears 0;");
        Check.same("9 less 3 against 0: both cut", x.game(0, 1, 1), 11);
        Check.same("that alone", x.game(0, 1, 0), 1);
        GutterSeats one = Check.told("gargoyle 1 1 9;gargoyle 9 9 99;wears 0;");
        Check.same("the first cuts", one.game(0, 1, 1), 10);
        Check.same("seen from the other", one.game(1, 0, 1), 1);
        GutterSeats four = Check.told("gargoyle 1 1 60;gargoyle 9 9 69;wears 0;");
        Check.same("6 against 9 less 3: neither gains more, so all rest", four.game(0, 1, 0), 4);
        Check.same("the first: neither cuts", four.game(0, 1, 1), 0);
        GutterSeats less = Check.told("gargoyle 1 1 59;gargoyle 9 9 70;wears 0;");
        Check.same("5 against 6, 7 against 6", less.game(0, 1, 1), 10);
        Check.same("that alone", less.game(0, 1, 0), 1);
        GutterSeats eight = Check.told("gargoyle 1 1 99;".repeat(7) + "gargoyle 1 1 9;wears 0;");
        Check.same("the last of 8 with the first", eight.game(7, 0, 1), 10);
        Check.same("the first of 8 with the last", eight.game(0, 7, 1), 1);
        Check.same("the others aren't cut", eight.game(0, 6, 1), 0);
    }

    private static void gameGains() {
        // A loaf that is cut has the face 0 0, so that who is like it stays: 9 and 2 less 3 against 2.
        GutterSeats loaf = Check.told("gargoyle 9 9 0;gargoyle 5 5 99;orphan 0 0 1 of 0;wears 0;sits unlike=0;");
        Check.same("of a LOAF JAW and BROW are 0", loaf.game(0, 1, 1), 10);
        // 2 for each who sits then: were it cut, both would leave: 5 and 4 against 9 less 3.
        GutterSeats two = Check.told("gargoyle 1 1 59;gargoyle 5 5 99;orphan 1 1 1 of 0;orphan 5 5 1 of 0;wears 0;"
            + "sits unlike=0 and (stone<99 or year<9);");
        Check.same("both sit, cut or not: 9 against 10", two.game(0, 1, 1), 10);
        GutterSeats left = Check.told("gargoyle 1 1 59;gargoyle 5 5 59;orphan 1 1 1 of 0;orphan 5 5 1 of 1;wears 0;"
            + "sits unlike=0 and stone<99;");
        Check.same("5 and 2 against 9 less 3: neither cuts", left.game(0, 1, 1), 0);
        Check.same("that alone", left.game(0, 1, 0), 1);
        String even = "orphan 1 1 1 of 0;wears 0;sits unlike=0 and stone<99;";
        Check.same("4 and 2 against 9 less 3: either", Check.told("gargoyle 1 1 49;gargoyle 5 5 99;" + even).game(0, 1, 0), 2);
        Check.same("3 and 2: it is cut", Check.told("gargoyle 1 1 39;gargoyle 5 5 99;" + even).game(0, 1, 1), 10);
        Check.same("that alone", Check.told("gargoyle 1 1 39;gargoyle 5 5 99;" + even).game(0, 1, 0), 1);
        Check.same("5 and 2: it isn't", Check.told("gargoyle 1 1 50;gargoyle 5 5 99;" + even).game(0, 1, 0), 1);
        GutterSeats three = Check.told("gargoyle 1 1 9;gargoyle 1 1 99;gargoyle 1 1 99;gargoyle 5 5 99;"
            + "orphan 1 1 1 of 0;orphan 1 1 1 of 0;orphan 1 1 1 of 0;wears 0;sits unlike=0 and (stone<99 or year=3 or 3<year);");
        Check.same("three sit, wherever, cut or not: 6 against 12", three.game(0, 3, 1), 10);
        GutterSeats nobody = Check.told("gargoyle 1 1 59;gargoyle 5 5 59;orphan 1 1 1;orphan 5 5 1;wears 0;"
            + "sits unlike=0 and stone<99;");
        Check.same("without a FAMILY 5 against 6: both cut", nobody.game(0, 1, 1), 11);
        // Behind 6 years, not 5 or 7: 65 less 6 is 59; 66 less 6 is 60.
        GutterSeats six = Check.told("gargoyle 1 1 65;gargoyle 5 5 66;wears (stone<99);");
        Check.same("5 against 6, 6 against 6: the first one cuts, the other either", six.game(0, 1, 0), 2);
        Check.same("the first", six.game(0, 1, 1), 10);
    }

    private static void ages() {
        GutterSeats x = Check.told("gargoyle 1 1 0;gargoyle 9 9 60;orphan 5 5 1;rain 1;sits 0;");
        Check.same("0 YEARS: LOAVES", x.ages(5, 0, 0), 1);
        Check.same("0 YEARS: how often", x.ages(5, 0, 1), 0);
        Check.same("0 YEARS: STONE", x.ages(5, 0, 2), 60);
        Check.same("nobody sits down by SITS of 0", x.ages(5, 60, 1), 0);
        x.lift(0, 1);
        Check.same("who sits already hasn't sat down", x.ages(5, 0, 1), 0);
    }

    private static int seed;

    private static int draw(int n) {
        seed = seed * 1103515245 + 12345;
        return (seed >> 16 & 32767) % n;
    }

    /** Two stones that never differ in face, and nobody: stone is all that draws change. */
    private static int stoneByDraws(int years, boolean isAnybody) {
        int[] stone = {90, 80};
        for (int year = 0; year < years; year++) {
            int rain = 1 + year % 2;
            int choice = draw(6);
            if (choice == 0) {
                stone[draw(2)] = 99;
            } else if (choice == 1 && isAnybody) {
                draw(3);
            } else if (choice == 2) {
                rain = draw(10);
            }
            stone[0] = Math.max(0, stone[0] - rain);
            stone[1] = Math.max(0, stone[1] - rain);
        }
        return stone[0] + stone[1];
    }

    private static void agesByDraws() {
        String text = "gargoyle 1 1 90;gargoyle 1 1 80;rain 1 2;sits 0;";
        GutterSeats nobody = Check.told(text);
        GutterSeats three = Check.told(text + "orphan 9 9 1;".repeat(3));
        for (int n = 0; n <= 60; n++) {
            seed = 1000003 * n;
            Check.same("without PEOPLE nothing is drawn behind 1", nobody.ages(1000003 * n, n, 2), stoneByDraws(n, false));
            seed = 1000003 * n;
            Check.same("with PEOPLE one is", three.ages(1000003 * n, n, 2), stoneByDraws(n, true));
        }
    }

    private static void agesOfOne() {
        GutterSeats stone = Check.told("gargoyle 1 1 90;rain 1;");
        GutterSeats person = Check.told("gargoyle 1 1 99;orphan 1 1 1;rain 0;");
        for (int first = 0; first < 60; first++) {
            seed = first;
            int due = 90;
            for (int year = 0; year < 40; year++) {
                int choice = draw(6);
                due = choice == 0 && draw(1) == 0 ? 99 : due;
                due = Math.max(0, due - (choice == 2 ? draw(10) : 1));
            }
            Check.same("one GARGOYLE alone is CUT ANEW", stone.ages(first, 40, 2), due);
            seed = first;
            int satDown = 1;
            for (int year = 0; year < 40; year++) {
                int choice = draw(6);
                satDown += choice == 1 && year > 0 ? 1 : 0;
                if (choice < 3) {
                    draw(1);
                }
            }
            Check.same("one alone is CALLED DOWN and sits down again", person.ages(first, 40, 1), satDown);
        }
    }

    private static void seedThatWraps() {
        GutterSeats x = Check.told("gargoyle 1 1 90;gargoyle 1 1 80;rain 1 2;");
        for (int first : new int[] {0, 1, -1, Integer.MAX_VALUE, Integer.MIN_VALUE, 0x7fff0000, 0x8000ffff}) {
            seed = first;
            Check.same("a seed of " + first, x.ages(first, 60, 2), stoneByDraws(60, false));
        }
        Check.same("the same seed, the same answer", x.ages(-1, 60, 2), x.ages(-1, 60, 2));
    }

    private static void image() {
        GutterSeats x = Check.told(STONES + PEOPLE);
        Check.is("none", !x.restore());
        x.image();
        x.years(3);
        x.image();
        x.years(3);
        Check.is("in place of another one", x.restore());
        Check.same("the YEAR of the second image", x.count(2), 3);
        Check.is("it is kept on", x.restore());
        x.image();
        x.undo();
        Check.is("an undone act comes again", x.restore());
        Check.same("the YEAR", x.count(2), 3);
        Check.same("ACTS that are kept", x.count(10), 1);
        // Acts that are kept come again, each as it was, whatever acts came in their place.
        GutterSeats acts = Check.told(STONES + PEOPLE);
        acts.cut(0, 1, 2);
        acts.cut(0, 3, 4);
        acts.cut(0, 5, 6);
        acts.image();
        for (int i = 0; i < 3; i++) {
            acts.undo();
        }
        for (int i = 0; i < 4; i++) {
            acts.cut(0, 9, 9);
        }
        acts.restore();
        int[] jaws = {3, 1, 1};
        int[] brows = {4, 2, 1};
        for (int i = 0; i < 3; i++) {
            Check.same("how many are left", acts.undo(), 2 - i);
            Check.same("JAW ahead of it", acts.gargoyle(0, 0), jaws[i]);
            Check.same("BROW ahead of it", acts.gargoyle(0, 1), brows[i]);
        }
        GutterSeats others = Check.told("orphan 1 1 9;orphan 5 5 9;gargoyle 9 9 9;rain 0;person 0 0 50 of 0;");
        others.see(1, 0, 5);
        others.see(2, 3, 3);
        others.image();
        others.forget();
        others.see(0, 9, 9);
        others.see(0, 9, 9);
        others.restore();
        Check.same("whose, behind how many YEARS, which JAW", others.old(2), 1);
        // What is seen comes again, with all its numbers.
        x.see(0, 0, 1);
        x.image();
        x.forget();
        x.see(0, 0, 9);
        x.restore();
        Check.same("what is SEEN", x.old(2), 1);
        Check.same("how much", x.count(11), 1);
        // STATUS too; the tape and the place of a fault are none of it.
        x.years(0);
        x.see(0, 99, 0);
        Check.tell(x, "#");
        Check.put(x, "abc");
        x.restore();
        Check.same("STATUS 0", x.count(13), 0);
        Check.same("STATUS 1", x.count(14), 0);
        Check.same("STATUS 2", x.count(15), 0);
        Check.same("the tape stays", x.count(12), 20);
        Check.same("the place stays", x.fault(), 0);
    }

    private static void withoutGargoyles() {
        GutterSeats x = Check.told(PEOPLE + "certain 1;");
        Check.same("MOST LIKE", x.where(0, 60, 4), NONE);
        Check.same("how UNLIKE", x.where(0, 60, 5), NONE);
        Check.same("WHERE", x.where(0, 60, 0), NONE);
        Check.same("LOAVES then", x.later(60, 0), 0);
        Check.same("who sits then", x.later(60, 1), 0);
        Check.same("STONE of all then", x.later(60, 2), 0);
        Check.same("most STONE", x.greatest(60, 1), NONE);
        Check.same("who is oldest of those who sit", x.greatest(60, 0), NONE);
        Check.same("AGES: LOAVES", x.ages(1, 60, 0), 0);
        Check.same("AGES: how often", x.ages(1, 60, 1), 0);
        Check.same("AGES: STONE", x.ages(1, 60, 2), 0);
        Check.same("OLD", x.old(0), 198);
        Check.same("LOOK: all are nowhere", x.look(1), 1);
        Check.same("LOOK: the least", x.look(0), 0);
        Check.same("a YEAR", x.years(20), 20);
        Check.same("AGE", x.person(0, 2), 29);
    }

    private static void withoutPeople() {
        GutterSeats x = Check.told(STONES);
        Check.same("who sits there then", x.then(0, 60, 3), NONE);
        Check.same("LOAF", x.loaf(0), 3);
        Check.same("SAT", x.sat(0, 60), 0);
        Check.same("who is oldest", x.greatest(60, 0), NONE);
        Check.same("WET", x.wet(0, 1, 10), 10);
        Check.same("GAME: 9 of STONE is 0, 81 is 8 less 3", x.game(0, 1, 1), 11);
        Check.same("FAMILY", x.gargoyle(0, 4), 0);
        Check.same("homes", x.homes(), 0);
    }
}

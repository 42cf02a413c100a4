/** Each promise by hand: ordinary answers, the edges that the document names, wrong inputs. */
public final class PromisesTest {
    private static final int NONE = GutterSeats.NONE;

    // In its first year (rain 2) person 0 sits down at gargoyle 0 and the orphan at gargoyle 1;
    // in its second one (rain 0) person 0 is 40 and comes to be quite like gargoyle 0.
    private static final String TOWER = "gargoyle 5 4 20;gargoyle 0 9 50;gargoyle 9 0 0;rain 2 0 3;certain 40;"
        + "person 4 4 38 of 0;orphan 1 9 12 of 1;person 9 9 70;";

    public static void main(String[] args) {
        newObject();
        feed();
        tower();
        count();
        gargoyle();
        person();
        yearsInOrder();
        years();
        cut();
        call();
        lift();
        leave();
        undo();
        then();
        where();
        loaf();
        later();
        sat();
        fits();
        unlike();
        seats();
        turn();
        lasts();
        best();
        greatest();
        empty();
        homes();
        see();
        old();
        look();
        forget();
        wet();
        game();
        ages();
        image();
        Check.end();
    }

    private static GutterSeats told() {
        return Check.told(TOWER);
    }

    private static void newObject() {
        GutterSeats x = new GutterSeats();
        int[] due = {0, 0, 0, 3, 30, 0, 0, 0, 0, 0, 0, 0, 0, 0, 0, 0};
        for (int what = 0; what < due.length; what++) {
            Check.same("count of a new object " + what, x.count(what), due[what]);
        }
        Check.same("no fault", x.fault(), NONE);
        Check.same("years go by over nobody", x.years(20), 20);
        Check.same("nothing to undo but these", x.undo(), 0);
        Check.is("no image", !x.restore());
        Check.fails("no gargoyle", Check.NO_SUCH, () -> x.gargoyle(0, 0));
        Check.fails("no person", Check.NO_SUCH, () -> x.person(0, 0));
        Check.same("seats of nobody", x.seats(NONE), 0);
        Check.same("the constant", NONE, -1);
    }

    private static void feed() {
        GutterSeats x = new GutterSeats();
        for (int i = 1; i <= 35; i++) {
            Check.same("feed " + i, x.feed(0x61626364, 0, -1, 0x20202020, i), 20 * i);
        }
        Check.same("a 36th one", x.feed(0, 0, 0, 0, 0), NONE);
        Check.same("700 bytes", x.count(12), 700);
        Check.same("the highest first: a word and a 0 behind it", x.tower(700), 1);
        Check.same("the word can't stand there", x.fault(), 0);
        Check.same("the tape is empty", x.count(12), 0);
        // "rain 7;certain 8;   ": the order of the five numbers and of their bytes
        Check.same("anew", x.feed(0x7261696e, 0x20373b63, 0x65727461, 0x696e2038, 0x3b202020), 20);
        Check.same("all of the tape", x.tower(20), 0);
        Check.same("rain 7", x.count(3), 7);
        Check.same("certain 8", x.count(4), 8);
        x.feed(0x7261696e, 0x20373b63, 0x65727461, 0x696e2038, 0x3b202020);
        Check.same("a part of the tape", x.tower(7), 0);
        Check.same("certain is not told", x.count(4), 30);
        Check.same("the tape is empty, whatever was behind", x.count(12), 0);
    }

    private static void tower() {
        GutterSeats x = told();
        x.years(4);
        x.see(0, 1, 1);
        x.image();
        Check.put(x, "gargoyle 1");
        Check.fails("more than there are", Check.ILLEGAL, () -> x.tower(21));
        Check.fails("below 0", Check.ILLEGAL, () -> x.tower(-1));
        Check.fails("the least int", Check.ILLEGAL, () -> x.tower(Integer.MIN_VALUE));
        Check.fails("the greatest int", Check.ILLEGAL, () -> x.tower(Integer.MAX_VALUE));
        Check.same("nothing changes: the tape", x.count(12), 20);
        Check.same("nothing changes: the fault", x.fault(), NONE);
        Check.same("nothing changes: refused texts", x.count(13), 0);
        Check.same("a fault", x.tower(10), 1);
        Check.same("its place", x.fault(), 10);
        Check.same("refused texts", x.count(13), 1);
        Check.same("the tape is empty", x.count(12), 0);
        Check.same("all stays: gargoyles", x.count(0), 3);
        Check.same("all stays: the year", x.count(2), 4);
        Check.same("all stays: certain", x.count(4), 40);
        Check.same("all stays: acts", x.count(10), 1);
        Check.same("all stays: seen", x.count(11), 1);
        Check.same("all stays: who sits", x.count(6), 3);
        Check.is("all stays: the image", x.restore());
        Check.same("but the status is the image's", x.count(13), 0);
        x.years(0);
        Check.tell(x, "x");
        Check.same("told anew", Check.tell(x, "orphan 1 2 3;"), 0);
        Check.same("no fault any more", x.fault(), NONE);
        int[] due = {0, 1, 0, 3, 30, 0, 0, 0, 0, 0, 0, 0, 0, 1, 1, 0};
        for (int what = 0; what < due.length; what++) {
            Check.same("count of what is told anew " + what, x.count(what), due[what]);
        }
        Check.is("the image is gone", !x.restore());
        Check.same("no act is left", x.undo(), NONE);
        x.years(3);
        Check.same("an empty text is a tower", x.tower(0), 0);
        Check.same("without anybody", x.count(1), 0);
        Check.same("in the first year", x.count(2), 0);
    }

    private static void count() {
        GutterSeats x = told();
        int[] due = {3, 3, 0, 2, 40, 1, 0, 70, 0, 1, 0, 0, 0, 0, 0, 0};
        for (int what = 0; what < due.length; what++) {
            Check.same("count " + what, x.count(what), due[what]);
        }
        x.years(1);
        Check.same("rain of the second year", x.count(3), 0);
        x.years(1);
        Check.same("rain of the third year", x.count(3), 3);
        x.years(1);
        Check.same("rain of the fourth year is the first's", x.count(3), 2);
        Check.same("the year", x.count(2), 3);
        Check.same("who sits", x.count(6), 3);
        Check.same("stone of all", x.count(7), 66);
        Check.same("acts", x.count(10), 3);
        Check.fails("below", Check.NO_SUCH, () -> x.count(-1));
        Check.fails("above", Check.NO_SUCH, () -> x.count(16));
        GutterSeats twins = Check.told("person 1 2 3;orphan 1 2 9;person 2 1 3;person 1 2 50;");
        Check.same("couples of three that are alike", twins.count(8), 3);
        String loaf = "gargoyle 1 1 0;";
        String whole = "gargoyle 1 1 1;";
        Check.same("a row over the end", Check.told(loaf + whole + loaf + loaf).count(9), 3);
        Check.same("a row within", Check.told(whole + loaf + loaf + whole + loaf).count(9), 2);
        Check.same("the first one", Check.told(loaf + whole).count(9), 1);
        Check.same("all of them", Check.told(loaf.repeat(5)).count(9), 5);
        Check.same("one alone", Check.told(loaf).count(9), 1);
        Check.same("none", Check.told(whole.repeat(3)).count(9), 0);
        Check.same("five loaves", Check.told(loaf.repeat(5)).count(5), 5);
    }

    private static void gargoyle() {
        GutterSeats x = told();
        int[][] due = {{5, 4, 20, NONE, 1}, {0, 9, 50, NONE, 2}, {0, 0, 0, NONE, 0}};
        for (int what = 0; what < 5; what++) {
            for (int i = 0; i < 3; i++) {
                Check.same("gargoyle " + i + ", " + what, x.gargoyle(i, what), due[i][what]);
            }
        }
        x.years(1);
        Check.same("who sits there", x.gargoyle(1, 3), 1);
        Check.same("where nobody sits", x.gargoyle(2, 3), NONE);
        x.leave(2, 1);
        Check.same("family of two, one an orphan", x.gargoyle(1, 4), 6);
        Check.fails("no such gargoyle", Check.NO_SUCH, () -> x.gargoyle(3, 0));
        Check.fails("none", Check.NO_SUCH, () -> x.gargoyle(-1, 0));
        Check.fails("no such what", Check.NO_SUCH, () -> x.gargoyle(0, 5));
        Check.fails("what below", Check.NO_SUCH, () -> x.gargoyle(0, -1));
    }

    private static void person() {
        GutterSeats x = told();
        int[][] due = {{4, 4, 38, 0, NONE, 0}, {1, 9, 12, 1, NONE, 1}, {9, 9, 70, NONE, NONE, 0}};
        for (int what = 0; what < 6; what++) {
            for (int i = 0; i < 3; i++) {
                Check.same("person " + i + ", " + what, x.person(i, what), due[i][what]);
            }
        }
        x.years(1);
        Check.same("where one sits", x.person(1, 4), 1);
        Check.fails("no such person", Check.NO_SUCH, () -> x.person(3, 0));
        Check.fails("none", Check.NO_SUCH, () -> x.person(-1, 0));
        Check.fails("no such what", Check.NO_SUCH, () -> x.person(0, 6));
        Check.fails("what below", Check.NO_SUCH, () -> x.person(0, -1));
    }

    /** What comes ahead of what in a year (terms, 2). */
    private static void yearsInOrder() {
        // The gargoyle is a loaf ahead of the faces: the person comes nearer to 0 and 0, not to 9 and 9.
        GutterSeats x = Check.told("gargoyle 9 9 3;person 5 5 29 of 0;");
        x.years(1);
        Check.same("worn by the usual rain of 3", x.gargoyle(0, 2), 0);
        Check.same("a loaf's jaw", x.gargoyle(0, 0), 0);
        Check.same("a loaf's brow", x.gargoyle(0, 1), 0);
        Check.same("one is 30 in this year", x.person(0, 0), 4);
        Check.same("and comes nearer to the loaf", x.person(0, 1), 4);
        GutterSeats young = Check.told("gargoyle 9 9 99;person 5 8 28 of 0;");
        young.years(1);
        Check.same("29 is too young", young.person(0, 0), 5);
        young.years(2);
        Check.same("by 1 in each year", young.person(0, 0), 7);
        Check.same("but not beyond", young.person(0, 1), 9);
        GutterSeats aged = Check.told("gargoyle 0 0 99;person 3 3 99;orphan 4 4 98 of 0;");
        aged.years(5);
        Check.same("99 at most", aged.person(0, 2), 99);
        Check.same("99 at most for an orphan", aged.person(1, 2), 99);
        Check.same("no family, no change", aged.person(0, 0), 3);
        Check.same("an orphan's face stays", aged.person(1, 0), 4);
        // Person 0 leaves the place first, so that person 1 may sit down there in the same year.
        GutterSeats moved = Check.told("gargoyle 1 1 99;person 1 1 10;person 1 1 5;rain 0;sits age<12;");
        moved.years(1);
        Check.same("the first one sits", moved.gargoyle(0, 3), 0);
        moved.years(1);
        Check.same("who left doesn't sit down again", moved.person(0, 4), NONE);
        Check.same("the second one sits down behind that", moved.gargoyle(0, 3), 1);
        // Person 1 leaves behind the turn of person 0, who then has to wait for the next year.
        GutterSeats late = Check.told("gargoyle 1 1 99;person 1 1 5;person 1 1 10;rain 0;sits age<12 and (0<year or 8<age);");
        late.years(1);
        Check.same("only the second one sits", late.gargoyle(0, 3), 1);
        late.years(1);
        Check.same("nobody sits", late.gargoyle(0, 3), NONE);
        late.years(1);
        Check.same("the first one sits", late.gargoyle(0, 3), 0);
        // The least unlike free place is looked at alone, even where another one would do.
        GutterSeats choosy = Check.told("gargoyle 1 1 50;gargoyle 3 3 60;person 1 1 5;sits 1<unlike;rain 0;");
        choosy.years(1);
        Check.same("no other place", choosy.person(0, 4), NONE);
        GutterSeats alike = Check.told("gargoyle 4 4 50;gargoyle 2 4 50;gargoyle 2 4 50;person 3 4 5;person 3 4 5;");
        alike.years(1);
        Check.same("of like ones the least", alike.person(0, 4), 0);
        Check.same("of like ones that are free the least", alike.person(1, 4), 1);
        GutterSeats far = Check.told("gargoyle 4 4 50;gargoyle 9 9 50;person 3 3 5;person 2 3 5;");
        far.years(1);
        Check.same("unlike by 2 will do", far.person(0, 4), 0);
        Check.same("the place is taken", far.person(1, 4), NONE);
        GutterSeats third = Check.told("gargoyle 4 4 50;person 2 3 5;");
        third.years(1);
        Check.same("unlike by 3 is too much", third.person(0, 4), NONE);
        // A place where one sits isn't worn; a loaf stays as it is.
        GutterSeats kept = Check.told("gargoyle 4 4 50;gargoyle 9 9 0;gargoyle 8 1 5;person 4 4 5;rain 9;");
        kept.lift(0, 0);
        kept.years(1);
        Check.same("not worn", kept.gargoyle(0, 2), 50);
        Check.same("still a loaf", kept.gargoyle(1, 2), 0);
        Check.same("not below 0", kept.gargoyle(2, 2), 0);
        Check.same("a loaf at once", kept.gargoyle(2, 0), 0);
    }

    private static void years() {
        GutterSeats x = told();
        Check.same("0", x.years(0), NONE);
        Check.same("21", x.years(21), NONE);
        Check.same("below", x.years(-5), NONE);
        Check.same("the greatest int", x.years(Integer.MAX_VALUE), NONE);
        Check.same("refused acts", x.count(14), 4);
        Check.same("no year went by", x.count(2), 0);
        Check.same("one", x.years(1), 1);
        for (int i = 0; i < 49; i++) {
            Check.same("twenty", x.years(20), 21 + 20 * i);
        }
        Check.same("to 981, so no twenty", x.years(20), NONE);
        Check.same("nor nineteen", x.years(19), NONE);
        Check.same("but eighteen", x.years(18), 999);
        Check.same("no more", x.years(1), NONE);
        Check.same("refused acts", x.count(14), 7);
        Check.same("40 acts are kept", x.count(10), 40);
        Check.same("years ahead of now go on", x.then(1, 60, 0), x.gargoyle(1, 2));
    }

    private static void cut() {
        GutterSeats x = told();
        Check.same("stone as it was", x.cut(0, 9, 0), 20);
        Check.same("another jaw", x.gargoyle(0, 0), 9);
        Check.same("another brow", x.gargoyle(0, 1), 0);
        Check.same("stone", x.gargoyle(0, 2), 99);
        Check.same("of a loaf", x.cut(2, 3, 4), 0);
        Check.same("no loaf", x.count(5), 0);
        Check.same("a jaw above", x.cut(0, 10, 0), NONE);
        Check.same("a brow above", x.cut(0, 0, 10), NONE);
        Check.same("a jaw below", x.cut(0, -1, 0), NONE);
        Check.same("a brow below", x.cut(0, 0, -1), NONE);
        Check.same("refused acts", x.count(14), 4);
        Check.same("acts", x.count(10), 2);
        Check.fails("no such gargoyle", Check.NO_SUCH, () -> x.cut(3, 10, 10));
        Check.same("that isn't refused, but none", x.count(14), 4);
    }

    private static void call() {
        GutterSeats x = told();
        Check.same("nowhere", x.call(0), NONE);
        x.years(1);
        Check.same("where one sat", x.call(1), 1);
        Check.same("nobody sits there", x.gargoyle(1, 3), NONE);
        Check.same("nowhere any more", x.call(1), NONE);
        Check.same("refused acts", x.count(14), 2);
        Check.same("acts", x.count(10), 2);
        Check.fails("no such person", Check.NO_SUCH, () -> x.call(3));
        x.years(1);
        Check.same("one sits down again in the next year", x.person(1, 4), 1);
    }

    private static void lift() {
        GutterSeats x = told();
        Check.is("lifted up", x.lift(2, 1));
        Check.same("one sits", x.gargoyle(1, 3), 2);
        Check.is("sits already", !x.lift(2, 0));
        Check.is("somebody sits there", !x.lift(1, 1));
        Check.is("sits there already", !x.lift(2, 1));
        Check.same("refused acts", x.count(14), 3);
        Check.is("to a loaf", x.lift(0, 2));
        Check.same("acts", x.count(10), 2);
        Check.fails("no such person", Check.NO_SUCH, () -> x.lift(3, 0) ? 1 : 0);
        Check.fails("no such gargoyle", Check.NO_SUCH, () -> x.lift(0, 3) ? 1 : 0);
        Check.fails("none", Check.NO_SUCH, () -> x.lift(0, NONE) ? 1 : 0);
        Check.same("these aren't refused acts", x.count(14), 3);
        x.years(1);
        Check.same("9 9 is too unlike 0 9", x.person(2, 4), NONE);
        Check.same("but kept it from the rain", x.gargoyle(1, 2), 50);
        Check.same("and kept the orphan away", x.person(1, 4), NONE);
    }

    private static void leave() {
        GutterSeats x = told();
        Check.same("for another one", x.leave(0, 1), 0);
        Check.same("the family", x.person(0, 3), 1);
        Check.same("it is so", x.leave(0, 1), -2);
        Check.same("for none", x.leave(0, NONE), 1);
        Check.same("it is none", x.leave(0, NONE), -2);
        Check.same("none before", x.leave(2, 2), NONE);
        Check.same("an orphan too", x.leave(1, 0), 1);
        Check.same("refused acts", x.count(14), 2);
        Check.same("acts", x.count(10), 4);
        Check.fails("no such person", Check.NO_SUCH, () -> x.leave(3, 0));
        Check.fails("no such gargoyle", Check.NO_SUCH, () -> x.leave(0, 3));
        Check.fails("below none", Check.NO_SUCH, () -> x.leave(0, -2));
        GutterSeats grown = told();
        grown.leave(0, 1);
        grown.years(2);
        Check.same("nearer to the new one, a jaw", grown.person(0, 0), 3);
        Check.same("nearer to the new one, a brow", grown.person(0, 1), 5);
    }

    private static void undo() {
        GutterSeats x = told();
        Check.same("none", x.undo(), NONE);
        Check.same("which is no refused act", x.count(14), 0);
        x.years(3);
        x.cut(0, 1, 1);
        x.call(1);
        x.lift(2, 2);
        x.leave(0, 2);
        Check.same("the family", x.undo(), 4);
        Check.same("is as it was", x.person(0, 3), 0);
        Check.same("the lift", x.undo(), 3);
        Check.same("is as it was", x.person(2, 4), NONE);
        Check.same("the call", x.undo(), 2);
        Check.same("is as it was", x.person(1, 4), 1);
        Check.same("the cut", x.undo(), 1);
        Check.same("jaw", x.gargoyle(0, 0), 5);
        Check.same("brow", x.gargoyle(0, 1), 4);
        Check.same("stone", x.gargoyle(0, 2), 18);
        Check.same("the years", x.undo(), 0);
        Check.same("the year", x.count(2), 0);
        Check.same("stone of all", x.count(7), 70);
        Check.same("nobody sits", x.count(6), 0);
        Check.same("age", x.person(2, 2), 70);
        Check.same("jaw", x.person(0, 0), 4);
        Check.same("none is left", x.undo(), NONE);
        for (int i = 0; i < 45; i++) {
            x.cut(0, i % 10, i / 10);
        }
        Check.same("40 are kept", x.count(10), 40);
        for (int left = 39; left >= 0; left--) {
            Check.same("left", x.undo(), left);
        }
        Check.same("none is left", x.undo(), NONE);
        Check.same("as the fifth one cut it", 10 * x.gargoyle(0, 1) + x.gargoyle(0, 0), 4);
        Check.same("the first ones stay", x.gargoyle(0, 2), 99);
    }

    private static void then() {
        GutterSeats x = told();
        Check.same("stone now", x.then(0, 0, 0), 20);
        Check.same("stone", x.then(0, 1, 0), 18);
        Check.same("stone, since one sits", x.then(0, 60, 0), 18);
        Check.same("jaw", x.then(1, 1, 1), 0);
        Check.same("brow", x.then(1, 1, 2), 9);
        Check.same("nobody now", x.then(0, 0, 3), NONE);
        Check.same("who sits there", x.then(1, 1, 3), 1);
        Check.same("nothing changes", x.count(2), 0);
        Check.fails("no such gargoyle", Check.NO_SUCH, () -> x.then(3, 61, 0));
        Check.fails("no such what", Check.NO_SUCH, () -> x.then(0, 61, 4));
        Check.fails("61", Check.ILLEGAL, () -> x.then(0, 61, 0));
        Check.fails("below", Check.ILLEGAL, () -> x.then(0, -1, 3));
    }

    private static void where() {
        GutterSeats x = told();
        int[] due = {0, 5, 4, 40, 0, 0};
        for (int what = 0; what < 6; what++) {
            Check.same("where " + what, x.where(0, 2, what), due[what]);
        }
        Check.same("nowhere", x.where(2, 60, 0), NONE);
        Check.same("most like 9 9: 0 9 and 5 4 are both unlike by 9", x.where(2, 0, 4), 0);
        Check.same("how unlike", x.where(2, 0, 5), 9);
        Check.same("99 at most", x.where(2, 60, 3), 99);
        Check.fails("no such person", Check.NO_SUCH, () -> x.where(3, 61, 0));
        Check.fails("no such what", Check.NO_SUCH, () -> x.where(0, 61, 6));
        Check.fails("61", Check.ILLEGAL, () -> x.where(0, 61, 5));
        Check.fails("below", Check.ILLEGAL, () -> x.where(0, -1, 0));
        GutterSeats alone = Check.told("person 1 2 3;");
        Check.same("no gargoyles", alone.where(0, 1, 4), NONE);
        Check.same("no gargoyles", alone.where(0, 1, 5), NONE);
    }

    private static void loaf() {
        GutterSeats x = Check.told("gargoyle 1 1 60;gargoyle 1 1 61;gargoyle 1 1 0;gargoyle 5 5 60;person 5 5 1;rain 1;");
        Check.same("behind 60 years", x.loaf(0), 60);
        Check.same("not within 60", x.loaf(1), NONE);
        Check.same("now", x.loaf(2), 0);
        Check.same("one sits there", x.loaf(3), NONE);
        Check.fails("no such gargoyle", Check.NO_SUCH, () -> x.loaf(4));
        x.years(1);
        Check.same("from now on", x.loaf(1), 60);
    }

    private static void later() {
        GutterSeats x = told();
        Check.same("loaves", x.later(60, 0), 4);
        Check.same("who sits", x.later(1, 1), 3);
        Check.same("who sits now", x.later(0, 1), 0);
        Check.same("stone of all", x.later(1, 2), 66);
        Check.fails("no such what", Check.NO_SUCH, () -> x.later(61, 3));
        Check.fails("what below", Check.NO_SUCH, () -> x.later(1, -1));
        Check.fails("61", Check.ILLEGAL, () -> x.later(61, 0));
        Check.fails("below", Check.ILLEGAL, () -> x.later(-1, 0));
    }

    private static void sat() {
        GutterSeats x = Check.told("gargoyle 1 1 99;person 1 1 10;rain 0;sits age<14;");
        Check.same("at the end of three", x.sat(0, 5), 3);
        Check.same("one", x.sat(0, 1), 1);
        Check.same("of sixty", x.sat(0, 60), 3);
        GutterSeats lifted = Check.told("gargoyle 1 1 99;person 9 9 10;");
        lifted.lift(0, 0);
        Check.same("who is lifted up leaves ahead of the end", lifted.sat(0, 1), 0);
        GutterSeats stays = Check.told("gargoyle 1 1 99;person 9 9 10;sits 17<unlike or age=12;");
        stays.lift(0, 0);
        Check.same("lifted up or not", stays.sat(0, 9), 1);
        Check.fails("no such gargoyle", Check.NO_SUCH, () -> x.sat(1, 61));
        Check.fails("0", Check.ILLEGAL, () -> x.sat(0, 0));
        Check.fails("61", Check.ILLEGAL, () -> x.sat(0, 61));
    }

    private static void fits() {
        GutterSeats x = told();
        Check.same("behind two years", x.fits(0, 0), 2);
        Check.same("an orphan never", x.fits(1, 1), NONE);
        Check.fails("no such person", Check.NO_SUCH, () -> x.fits(3, 0));
        Check.fails("no such gargoyle", Check.NO_SUCH, () -> x.fits(0, 3));
        GutterSeats now = Check.told("gargoyle 1 1 9;orphan 1 1 1;orphan 0 0 1;");
        Check.same("now", now.fits(0, 0), 0);
        Check.same("a loaf that comes to be like one", now.fits(1, 0), NONE);
        GutterSeats loaf = Check.told("gargoyle 9 9 9;orphan 0 0 1;");
        Check.same("a loaf that comes to be like one", loaf.fits(0, 0), 3);
        GutterSeats late = Check.told("gargoyle 2 1 99;person 1 1 0 of 0;certain 60;rain 0;");
        Check.same("behind 60 years", late.fits(0, 0), 60);
        GutterSeats later = Check.told("gargoyle 2 1 99;person 1 1 0 of 0;certain 61;rain 0;");
        Check.same("not within 60", later.fits(0, 0), NONE);
    }

    private static void unlike() {
        GutterSeats x = told();
        Check.same("a person and a gargoyle", x.unlike(1, 0, 0), 9);
        Check.same("two gargoyles", x.unlike(0, 1, 1), 10);
        Check.same("with a loaf", x.unlike(0, 2, 1), 9);
        Check.same("two people", x.unlike(0, 2, 2), 10);
        Check.same("one and the same", x.unlike(2, 2, 2), 0);
        Check.fails("no such what", Check.NO_SUCH, () -> x.unlike(0, 0, 3));
        Check.fails("what below", Check.NO_SUCH, () -> x.unlike(0, 0, -1));
        GutterSeats few = Check.told("gargoyle 1 1 1;gargoyle 2 2 2;person 3 3 3;");
        Check.same("the second gargoyle", few.unlike(0, 1, 0), 2);
        Check.fails("no such person", Check.NO_SUCH, () -> few.unlike(1, 0, 0));
        Check.fails("no such gargoyle", Check.NO_SUCH, () -> few.unlike(0, 2, 0));
        Check.fails("no such gargoyle", Check.NO_SUCH, () -> few.unlike(2, 0, 1));
        Check.fails("no such gargoyle", Check.NO_SUCH, () -> few.unlike(0, -1, 1));
        Check.fails("no such person", Check.NO_SUCH, () -> few.unlike(0, 1, 2));
        Check.fails("no such person", Check.NO_SUCH, () -> few.unlike(-1, 0, 2));
    }

    private static void seats() {
        // Each for oneself would take 0 first (0 and 5); all together 1 and 0 (1 and 0) is less.
        GutterSeats x = Check.told("gargoyle 3 3 9;gargoyle 3 4 9;person 3 3 1;person 1 0 1;");
        Check.same("least of all", x.seats(NONE), 0 + 6);
        Check.same("of like ones the first row", x.seats(0), 0);
        Check.same("the other one", x.seats(1), 1);
        GutterSeats crossed = Check.told("gargoyle 3 3 9;gargoyle 3 5 9;person 3 4 1;person 3 1 1;");
        Check.same("1 and 2", crossed.seats(NONE), 3);
        Check.same("gives way", crossed.seats(0), 1);
        Check.same("has the nearer one", crossed.seats(1), 0);
        GutterSeats many = Check.told("gargoyle 5 5 9;person 1 1 1;person 5 4 1;person 4 5 1;");
        Check.same("one place", many.seats(NONE), 1);
        Check.same("nowhere", many.seats(0), NONE);
        Check.same("the first of like ones", many.seats(1), 0);
        Check.same("nowhere behind all", many.seats(2), NONE);
        GutterSeats none = Check.told("person 1 1 1;");
        Check.same("without gargoyles", none.seats(NONE), 0);
        Check.same("nowhere", none.seats(0), NONE);
        Check.fails("no such person", Check.NO_SUCH, () -> none.seats(1));
        Check.fails("below none", Check.NO_SUCH, () -> none.seats(-2));
        GutterSeats sitting = Check.told("gargoyle 1 1 9;gargoyle 9 9 9;person 1 1 1;person 9 9 1;");
        sitting.lift(0, 1);
        Check.same("whoever sits now", sitting.seats(0), 0);
        GutterSeats all = Check.told("gargoyle 4 4 9;".repeat(8) + "person 4 5 1;".repeat(8));
        Check.same("eight by eight", all.seats(NONE), 8);
        Check.same("in their order", all.seats(7), 7);
    }

    private static void turn() {
        GutterSeats x = Check.told("gargoyle 1 1 9;gargoyle 5 5 9;gargoyle 9 9 9;person 9 9 1;person 1 1 1;");
        Check.same("by two places", x.turn(0), 2);
        Check.same("nothing is left", x.turn(1), 0);
        GutterSeats round = Check.told("gargoyle 1 1 9;gargoyle 5 5 9;person 5 5 1;person 1 1 1;person 5 6 1;");
        Check.same("more people than gargoyles", round.turn(0), 1);
        Check.same("how much", round.turn(1), 1);
        GutterSeats like = Check.told("gargoyle 1 1 9;gargoyle 1 1 9;person 5 5 1;");
        Check.same("of like ones the least", like.turn(0), 0);
        Check.same("how much", like.turn(1), 8);
        GutterSeats nobody = Check.told("gargoyle 1 1 9;gargoyle 1 1 9;");
        Check.same("without people", nobody.turn(0), 0);
        Check.same("without people", nobody.turn(1), 0);
        GutterSeats none = Check.told("person 1 1 9;");
        Check.same("without gargoyles", none.turn(0), NONE);
        Check.same("without gargoyles", none.turn(1), NONE);
        Check.fails("no such what", Check.NO_SUCH, () -> none.turn(2));
        Check.fails("what below", Check.NO_SUCH, () -> none.turn(-1));
    }

    private static void lasts() {
        GutterSeats x = Check.told("gargoyle 1 1 6;gargoyle 9 9 6;person 1 1 1;person 9 1 1;sits unlike<3 or year<2;");
        Check.same("one who stays", x.lasts(0, 0), NONE);
        Check.same("two years more for one who leaves", x.lasts(1, 1), 5);
        x.lift(0, 1);
        x.lift(1, 0);
        Check.same("who sits elsewhere and whoever sits there", x.lasts(0, 0), NONE);
        Check.same("where nobody is then", x.loaf(1), 5);
        Check.same("who sits there already stays", x.lasts(0, 1), 5);
        Check.same("nothing changes", x.person(0, 4), 1);
        Check.fails("no such person", Check.NO_SUCH, () -> x.lasts(2, 0));
        Check.fails("no such gargoyle", Check.NO_SUCH, () -> x.lasts(0, 2));
        GutterSeats loaf = Check.told("gargoyle 1 1 0;person 1 1 1;");
        Check.same("a loaf now", loaf.lasts(0, 0), 0);
        // Were somebody at gargoyle 0 in the first year, gargoyle 1 would last for one more.
        String text = "gargoyle 1 1 51;gargoyle 9 9 20;person 1 1 1;person 9 9 1;wears (beside<60)*20;sits 0;";
        GutterSeats other = Check.told(text);
        other.lift(1, 1);
        Check.same("whoever sits there is called down", other.lasts(0, 1), 2);
        GutterSeats elsewhere = Check.told(text);
        elsewhere.lift(0, 0);
        Check.same("one is called down elsewhere", elsewhere.lasts(0, 1), 2);
        Check.same("somebody else stays there", elsewhere.lasts(1, 1), 3);
    }

    private static void best() {
        GutterSeats x = Check.told("gargoyle 1 1 50;gargoyle 9 9 50;gargoyle 5 5 2;person 1 1 1;rain 5;wears stone/5;sits 1;");
        Check.same("where it is worn most, of like ones the least", x.best(0, 1, 0), 0);
        Check.same("stone of all then", x.best(0, 1, 1), 50 + 40 + 2);
        x.cut(1, 9, 9);
        Check.same("the one that loses most", x.best(0, 1, 0), 1);
        Check.same("stone of all then", x.best(0, 1, 1), 40 + 99 + 2);
        x.lift(0, 0);
        Check.same("who sits elsewhere", x.best(0, 1, 0), 1);
        Check.same("nothing changes", x.person(0, 4), 0);
        Check.fails("no such person", Check.NO_SUCH, () -> x.best(1, 0, 0));
        Check.fails("no such what", Check.NO_SUCH, () -> x.best(0, 0, 2));
        Check.fails("0", Check.ILLEGAL, () -> x.best(0, 0, 0));
        Check.fails("61", Check.ILLEGAL, () -> x.best(0, 61, 1));
        GutterSeats none = Check.told("person 1 1 1;");
        Check.same("no gargoyles", none.best(0, 1, 0), NONE);
        Check.same("no gargoyles", none.best(0, 60, 1), NONE);
    }

    private static void greatest() {
        GutterSeats x = told();
        Check.same("nobody sits now", x.greatest(0, 0), NONE);
        Check.same("the oldest of those who sit", x.greatest(1, 0), 0);
        Check.same("most stone", x.greatest(0, 1), 1);
        GutterSeats like = Check.told("gargoyle 1 1 7;gargoyle 9 9 7;person 1 1 90;person 9 9 95;");
        Check.same("both are 99 then: the least", like.greatest(20, 0), 0);
        Check.same("the older one", like.greatest(1, 0), 1);
        Check.same("of like stone the least", like.greatest(1, 1), 0);
        Check.fails("no such what", Check.NO_SUCH, () -> x.greatest(61, 2));
        Check.fails("61", Check.ILLEGAL, () -> x.greatest(61, 0));
        Check.fails("below", Check.ILLEGAL, () -> x.greatest(-1, 1));
        GutterSeats none = Check.told("person 1 1 1;");
        Check.same("no gargoyles", none.greatest(5, 1), NONE);
        GutterSeats loaves = Check.told("gargoyle 1 1 0;gargoyle 1 1 0;");
        Check.same("loaves only", loaves.greatest(5, 1), 0);
    }

    private static void empty() {
        GutterSeats x = Check.told("gargoyle 1 1 99;person 1 1 10;rain 0;sits age<14;");
        Check.same("but in three of five", x.empty(5), 2);
        Check.same("of one", x.empty(1), 0);
        Check.same("of sixty", x.empty(60), 57);
        Check.fails("0", Check.ILLEGAL, () -> x.empty(0));
        Check.fails("61", Check.ILLEGAL, () -> x.empty(61));
    }

    private static void homes() {
        GutterSeats x = told();
        Check.same("nobody sits", x.homes(), 0);
        x.years(1);
        Check.same("an orphan too", x.homes(), 3);
        x.lift(2, 2);
        Check.same("no family, no home", x.homes(), 3);
        x.leave(0, 1);
        Check.same("of another family", x.homes(), 2);
    }

    private static void see() {
        GutterSeats x = told();
        Check.same("one", x.see(0, 0, 4), 1);
        Check.same("two", x.see(2, 20, 9), 2);
        Check.same("years below", x.see(0, -1, 4), NONE);
        Check.same("years above", x.see(0, 21, 4), NONE);
        Check.same("a jaw below", x.see(0, 0, -1), NONE);
        Check.same("a jaw above", x.see(0, 0, 10), NONE);
        Check.same("refused", x.count(15), 4);
        Check.fails("no such person", Check.NO_SUCH, () -> x.see(3, 21, 10));
        Check.same("that isn't refused, but none", x.count(15), 4);
        for (int i = 3; i <= 8; i++) {
            Check.same("more", x.see(1, 3, 1), i);
        }
        Check.same("there are 8", x.see(1, 3, 1), NONE);
        Check.same("refused", x.count(15), 5);
        Check.same("seen", x.count(11), 8);
        Check.same("these are no acts", x.count(10), 0);
    }

    private static void old() {
        // The jaw goes from 0 to 9 with one's 40th year on; behind ten years it is 4, if one is 34 now.
        String text = "gargoyle 9 9 99;person 0 0 20 of 0;certain 40;rain 0;";
        GutterSeats x = Check.told(text);
        Check.same("nothing is seen: all ages but one's own", x.old(0), 99);
        Check.same("the first", x.old(1), 0);
        Check.same("without", x.old(2), 1);
        x.see(0, 10, 5);
        Check.same("one age", x.old(0), 1);
        Check.same("which", x.old(1), 34);
        Check.same("not without", x.old(2), 0);
        x.see(0, 0, 1);
        Check.same("none", x.old(0), 0);
        Check.same("none", x.old(1), NONE);
        GutterSeats two = Check.told(text + "person 3 3 50;");
        two.see(1, 5, 3);
        Check.same("two of people", two.old(0), 198);
        two.see(0, 19, 0);
        Check.same("it is so without, but 20 itself doesn't count", two.old(2), 1);
        Check.same("0 to 19 of the first, all of the second but 50", two.old(0), 20 + 99);
        two.forget();
        two.see(0, 20, 1);
        Check.same("behind 20 years 40 comes once for 20", two.old(2), 1);
        GutterSeats second = Check.told("person 3 3 50;gargoyle 9 9 99;person 0 0 20 of 0;certain 40;rain 0;");
        second.see(1, 10, 5);
        Check.same("100 by who", second.old(1), 134);
        second.years(3);
        Check.same("from now on", second.old(1), 134);
        Check.fails("no such what", Check.NO_SUCH, () -> x.old(3));
        Check.fails("what below", Check.NO_SUCH, () -> x.old(-1));
    }

    private static void look() {
        GutterSeats x = Check.told("gargoyle 1 1 99;gargoyle 8 8 99;orphan 1 1 5;orphan 8 8 5;sits age<50;rain 0;");
        Check.same("both could be nowhere or in one's place: the least", x.look(0), 0);
        Check.same("two places", x.look(1), 2);
        GutterSeats second = Check.told("gargoyle 1 1 99;gargoyle 8 8 99;orphan 9 0 5;orphan 8 8 5;sits age<50 and unlike<3;rain 0;");
        Check.same("the second one", second.look(0), 1);
        second.see(0, 0, 8);
        Check.same("without any", second.look(0), NONE);
        Check.same("without any", second.look(1), 0);
        GutterSeats sixth = Check.told("gargoyle 1 1 99;orphan 1 1 5;sits age=6;");
        Check.same("of age 0 one sits behind just 6 years", sixth.look(1), 2);
        GutterSeats still = Check.told("gargoyle 1 1 99;orphan 1 1 5;");
        Check.same("always in one place", still.look(1), 1);
        Check.same("of one", still.look(0), 0);
        Check.fails("no such what", Check.NO_SUCH, () -> x.look(2));
        Check.fails("what below", Check.NO_SUCH, () -> x.look(-1));
    }

    private static void forget() {
        GutterSeats x = told();
        x.see(0, 0, 9);
        x.see(0, 99, 9);
        Check.same("not so", x.old(2), 0);
        x.forget();
        Check.same("nothing is seen", x.count(11), 0);
        Check.same("so it is so", x.old(2), 1);
        Check.same("the status stays", x.count(15), 1);
    }

    private static void wet() {
        GutterSeats x = Check.told("gargoyle 1 1 9;gargoyle 1 1 18;gargoyle 1 1 0;rain 5;");
        Check.same("one wet year of one", x.wet(0, 1, 3), 3);
        Check.same("one wet year of two", x.wet(0, 2, 3), 100 - 49);
        Check.same("two wet years of two", x.wet(1, 2, 3), 9);
        Check.same("two wet years of five", x.wet(1, 5, 5), 100000 - 6 * 3125);
        Check.same("never wet", x.wet(0, 5, 0), 0);
        Check.same("always wet", x.wet(0, 1, 10), 10);
        Check.same("always wet for five", x.wet(1, 5, 10), 100000);
        Check.same("a loaf", x.wet(2, 3, 0), 1000);
        GutterSeats rule = Check.told("gargoyle 1 1 20;wears rain+1;");
        Check.same("by the rule, which knows of the rain", rule.wet(0, 2, 4), 16);
        Check.fails("no such gargoyle", Check.NO_SUCH, () -> x.wet(3, 0, 11));
        Check.fails("0 years", Check.ILLEGAL, () -> x.wet(0, 0, 5));
        Check.fails("6 years", Check.ILLEGAL, () -> x.wet(0, 6, 5));
        Check.fails("tenths below", Check.ILLEGAL, () -> x.wet(0, 1, -1));
        Check.fails("tenths above", Check.ILLEGAL, () -> x.wet(0, 1, 11));
    }

    private static void game() {
        // 20 of stone is 2 behind 6 years of rain 3; cut anew 81 is 8, less 3 is 5: both cut.
        GutterSeats x = Check.told("gargoyle 1 1 38;gargoyle 9 9 20;");
        Check.same("one couple rests", x.game(0, 1, 0), 1);
        Check.same("both cut", x.game(0, 1, 1), 11);
        // 71 is 5 behind 6 years, as is what is cut anew: either choice of the first one rests.
        GutterSeats like = Check.told("gargoyle 1 1 71;gargoyle 9 9 20;");
        Check.same("two couples rest", like.game(0, 1, 0), 2);
        Check.same("the first one not cut, the other one cut", like.game(0, 1, 1), 1);
        Check.same("seen from the other one", like.game(1, 0, 1), 10);
        GutterSeats less = Check.told("gargoyle 1 1 67;gargoyle 9 9 20;");
        Check.same("67 is 4 behind 6 years", less.game(0, 1, 0), 1);
        Check.same("so that one is cut", less.game(0, 1, 1), 11);
        GutterSeats well = Check.told("gargoyle 1 1 99;gargoyle 9 9 99;");
        Check.same("nobody cuts", well.game(0, 1, 1), 0);
        // A loaf that is cut keeps the face of a loaf, so that its person goes on sitting there.
        GutterSeats loaf = Check.told("gargoyle 9 9 0;gargoyle 9 9 99;orphan 0 0 5 of 0;");
        Check.same("cut: 9 and 2 less 3; not cut: 2", loaf.game(0, 1, 1), 10);
        // The person of the other one sits, as long as that one isn't cut: 9 less 3 against 5 and 2.
        GutterSeats wherever = Check.told("gargoyle 1 1 59;gargoyle 9 9 59;orphan 9 9 5 of 1;wears 0;"
            + "sits stone<99 and unlike<3;");
        Check.same("the first one cuts, the other one doesn't", wherever.game(0, 1, 1), 10);
        Check.same("that alone rests", wherever.game(0, 1, 0), 1);
        GutterSeats away = Check.told("gargoyle 1 1 69;gargoyle 9 9 69;orphan 9 9 5 of 0;wears 0;");
        Check.same("6 and 2 wherever one sits, cut or not, so any couple", away.game(0, 1, 0), 4);
        // Gains by both choices: neither 0 and 8, the first 2 and 0, both -3 and 3, the other 0 and 6.
        GutterSeats restless = Check.told("gargoyle 1 1 51;gargoyle 9 9 87;wears beside-100;");
        Check.same("no couple rests", restless.game(0, 1, 0), 0);
        Check.same("no first one", restless.game(0, 1, 1), NONE);
        Check.fails("no such gargoyle", Check.NO_SUCH, () -> x.game(2, 2, 0));
        Check.fails("no such other", Check.NO_SUCH, () -> x.game(0, -1, 0));
        Check.fails("no such what", Check.NO_SUCH, () -> x.game(0, 0, 2));
        Check.fails("both are one", Check.ILLEGAL, () -> x.game(1, 1, 0));
    }

    private static int drawn;

    private static int draw(int n) {
        drawn = drawn * 1103515245 + 12345;
        return (drawn >>> 16) % 32768 % n;
    }

    private static void ages() {
        GutterSeats x = told();
        Check.same("no years: loaves", x.ages(7, 0, 0), 1);
        Check.same("no years: nobody sat down", x.ages(7, 0, 1), 0);
        Check.same("no years: stone", x.ages(7, 0, 2), 70);
        Check.fails("no such what", Check.NO_SUCH, () -> x.ages(7, 61, 3));
        Check.fails("61", Check.ILLEGAL, () -> x.ages(7, 61, 0));
        Check.fails("below", Check.ILLEGAL, () -> x.ages(7, -1, 2));
        // Without rules and people: stone by the draws alone, from the text's rain of 1.
        GutterSeats bare = Check.told("gargoyle 1 1 50;gargoyle 2 2 60;rain 1;");
        for (int seed = -60; seed < 60; seed++) {
            int[] stone = {50, 60};
            drawn = seed * 1234567;
            for (int year = 0; year < 20; year++) {
                int rain = 1;
                int choice = draw(6);
                if (choice == 0) {
                    stone[draw(2)] = 99;
                } else if (choice == 2) {
                    rain = draw(10);
                }
                stone[0] = Math.max(0, stone[0] - rain);
                stone[1] = Math.max(0, stone[1] - rain);
            }
            Check.same("stone by a seed", bare.ages(seed * 1234567, 20, 2), stone[0] + stone[1]);
        }
        // Whoever is called down ahead of a year sits down again in it.
        GutterSeats sitters = Check.told("gargoyle 1 1 50;gargoyle 9 9 50;person 1 1 5;person 9 9 5;wears 0;");
        for (int seed = 0; seed < 60; seed++) {
            boolean[] sits = {false, false};
            int satDown = 0;
            drawn = seed;
            for (int year = 0; year < 30; year++) {
                int choice = draw(6);
                if (choice == 1) {
                    sits[draw(2)] = false;
                } else if (choice == 0 || choice == 2) {
                    draw(2);
                }
                satDown += (sits[0] ? 0 : 1) + (sits[1] ? 0 : 1);
                sits[0] = true;
                sits[1] = true;
            }
            Check.same("sat down by a seed", sitters.ages(seed, 30, 1), satDown);
        }
        Check.same("nothing changes", sitters.count(2), 0);
        GutterSeats noStones = Check.told("person 1 1 5;");
        GutterSeats nobody = new GutterSeats();
        for (int seed = 0; seed < 30; seed++) {
            Check.same("no stone", noStones.ages(seed, 60, 2), 0);
            Check.same("nobody sits down", nobody.ages(seed, 60, 1), 0);
        }
    }

    private static void image() {
        GutterSeats x = told();
        Check.is("none", !x.restore());
        x.years(1);
        x.cut(0, 1, 1);
        x.see(0, 1, 1);
        x.see(0, 21, 1);
        x.years(0);
        Check.tell(x, "#");
        x.image();
        x.years(5);
        x.call(0);
        x.leave(1, NONE);
        x.forget();
        x.years(21);
        x.see(0, 0, 10);
        Check.tell(x, "#");
        Check.put(x, "abc");
        Check.is("restored", x.restore());
        int[] due = {3, 3, 1, 0, 40, 1, 3, 147, 0, 1, 2, 1, 20, 1, 1, 1};
        for (int what = 0; what < due.length; what++) {
            Check.same("count of the image " + what, x.count(what), due[what]);
        }
        Check.same("family", x.person(1, 3), 1);
        Check.same("an act of the image", x.undo(), 1);
        Check.same("stone ahead of the cut", x.gargoyle(0, 2), 18);
        Check.same("an act of the image", x.undo(), 0);
        Check.same("as it was told", x.count(7), 70);
        Check.is("again", x.restore());
        Check.same("the acts are there again", x.count(10), 2);
        x.years(2);
        x.image();
        x.years(1);
        x.restore();
        Check.same("in place of another one", x.count(2), 3);
        x.undo();
        Check.is("the image stays by an undo", x.restore());
        Check.same("the year", x.count(2), 3);
    }
}

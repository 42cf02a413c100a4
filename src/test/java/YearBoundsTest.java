/** "==== 2.": what a year and an act do at their bounds, just inside and just outside; and what an
    EXPR is worth where ints wrap or a divisor is 0. */
public final class YearBoundsTest {
    private static final int NONE = GutterSeats.NONE;
    // the greatest and the least int, and -1, as an EXPR
    private static final String GREATEST = "(2147*1000*1000+483*1000+647)";
    private static final String LEAST = "(0-2147*1000*1000-483*1000-648)";
    private static final String BELOW = "(0-1)";

    public static void main(String[] args) {
        loaves();
        unlike();
        nobodySitsAtFirst();
        atMostOneInAPlace();
        keptTo0To20();
        notBelow0();
        withoutWears();
        whereSomebodySits();
        ring();
        atItsTurn();
        familyOfSits();
        ages();
        certain();
        orphansAndFamilies();
        oneNearer();
        staysOrLeaves();
        sitsDown();
        norLeftInThisYear();
        leastUnlike();
        withoutSits();
        theYear();
        intsThatWrap();
        cutDown();
        whatHolds();
        latestForty();
        actsAreUndone();
        allOfEightUndone();
        Check.end();
    }

    /** The object behind so many years. */
    private static GutterSeats behind(int years, String text) {
        GutterSeats x = Check.told(text);
        x.years(years);
        return x;
    }

    private static void loaves() {
        GutterSeats told = Check.told("gargoyle 9 8 0;gargoyle 9 8 1;");
        Check.same("STONE 0: JAW is 0, also of one that is told so", told.gargoyle(0, 0), 0);
        Check.same("STONE 0: BROW is 0, also of one that is told so", told.gargoyle(0, 1), 0);
        Check.same("STONE 1 is no LOAF: JAW", told.gargoyle(1, 0), 9);
        Check.same("STONE 1 is no LOAF: BROW", told.gargoyle(1, 1), 8);
        Check.same("one LOAF", told.count(5), 1);
        GutterSeats worn = behind(1, "gargoyle 9 8 5;gargoyle 9 8 6;rain 5;");
        Check.same("worn to 0: JAW is 0, at once", worn.gargoyle(0, 0), 0);
        Check.same("worn to 0: BROW is 0, at once", worn.gargoyle(0, 1), 0);
        Check.same("worn to 1: JAW stays", worn.gargoyle(1, 0), 9);
        Check.same("worn to 1: BROW stays", worn.gargoyle(1, 1), 8);
        Check.same("a LOAF's STONE stays 0", behind(2, "gargoyle 9 8 0;wears 0-5;").gargoyle(0, 2), 0);
        // At once: in the same year one is as like a loaf as 2 is like 0.
        Check.same("at once, for who sits down", behind(1, "gargoyle 9 9 3;orphan 1 1 1;").person(0, 4), 0);
        Check.same("one year ahead", behind(1, "gargoyle 9 9 4;orphan 1 1 1;").person(0, 4), NONE);
    }

    private static void unlike() {
        GutterSeats x = Check.told("gargoyle 0 0 9;gargoyle 9 9 9;gargoyle 9 0 9;person 9 9 1;person 0 9 1;");
        Check.same("both JAWS and both BROWS, together", x.unlike(0, 0, 0), 18);
        Check.same("either way round", x.unlike(0, 1, 1), 18);
        Check.same("either way round", x.unlike(1, 0, 1), 18);
        Check.same("JAWS alone", x.unlike(0, 2, 1), 9);
        Check.same("BROWS alone", x.unlike(1, 2, 1), 9);
        Check.same("not at all", x.unlike(0, 1, 0), 0);
        Check.same("a JAW less and a BROW more", x.unlike(1, 2, 0), 18);
        Check.same("two of PEOPLE", x.unlike(0, 1, 2), 9);
    }

    private static void nobodySitsAtFirst() {
        GutterSeats x = Check.told("gargoyle 4 4 9;".repeat(8) + "person 4 4 9 of 0;".repeat(8));
        Check.same("nobody sits at first", x.count(6), 0);
        for (int i = 0; i < 8; i++) {
            Check.same("nobody sits there", x.gargoyle(i, 3), NONE);
            Check.same("sits nowhere", x.person(i, 4), NONE);
        }
        x.years(1);
        Check.same("all sit", x.count(6), 255);
        for (int i = 0; i < 8; i++) {
            Check.same("each one in a place of one's own", x.person(i, 4), i);
            Check.same("each place", x.gargoyle(i, 3), i);
        }
    }

    private static void atMostOneInAPlace() {
        GutterSeats x = behind(1, "gargoyle 4 4 9;person 4 4 9;person 4 4 9;person 4 4 9;");
        Check.same("at most one in a place", x.count(6), 1);
        x.years(1);
        Check.same("in the next year neither", x.count(6), 1);
        GutterSeats more = behind(1, "gargoyle 4 4 9;gargoyle 5 4 9;gargoyle 4 4 9;person 4 4 9;");
        Check.same("one sits in one place", more.person(0, 4), 0);
        Check.same("and not in another", more.gargoyle(2, 3), NONE);
    }

    /** How much STONE of 99 is less by a rule in one year, with rain 7. */
    private static void wear(String rule, int due) {
        Check.same("wears " + rule, 99 - behind(1, "gargoyle 1 1 99;rain 7;wears " + rule + ";").gargoyle(0, 2), due);
    }

    private static void keptTo0To20() {
        wear("0-1", 0);
        wear("0", 0);
        wear("1", 1);
        wear("19", 19);
        wear("20", 20);
        wear("21", 20);
        wear("9999", 20);
        wear(GREATEST, 20);
        wear(LEAST, 0);
        wear(BELOW + "*9999", 0);
    }

    private static void notBelow0() {
        Check.same("one more than it has", behind(1, "gargoyle 1 1 5;wears 6;").gargoyle(0, 2), 0);
        Check.same("all that it has", behind(1, "gargoyle 1 1 5;wears 5;").gargoyle(0, 2), 0);
        Check.same("one less than it has", behind(1, "gargoyle 1 1 5;wears 4;").gargoyle(0, 2), 1);
        Check.same("20 of 19", behind(1, "gargoyle 1 1 19;wears 99;").gargoyle(0, 2), 0);
        Check.same("20 of 20", behind(1, "gargoyle 1 1 20;wears 99;").gargoyle(0, 2), 0);
        Check.same("20 of 21", behind(1, "gargoyle 1 1 21;wears 99;").gargoyle(0, 2), 1);
        Check.same("9 of 8 by RAIN", behind(1, "gargoyle 1 1 8;rain 9;").gargoyle(0, 2), 0);
    }

    private static void withoutWears() {
        for (int rain = 0; rain <= 9; rain++) {
            Check.same("RAIN of the YEAR", behind(1, "gargoyle 1 1 99;rain " + rain + ";").gargoyle(0, 2), 99 - rain);
        }
        Check.same("RAIN of each YEAR", behind(3, "gargoyle 1 1 99;rain 1 9;").gargoyle(0, 2), 99 - 11);
        Check.same("3 without", behind(20, "gargoyle 1 1 99;").gargoyle(0, 2), 99 - 60);
    }

    private static void whereSomebodySits() {
        GutterSeats x = Check.told("gargoyle 1 1 50;gargoyle 9 9 50;person 1 1 1;rain 5;");
        x.lift(0, 0);
        x.years(1);
        Check.same("where somebody sits it isn't worn", x.gargoyle(0, 2), 50);
        Check.same("where nobody sits it is", x.gargoyle(1, 2), 45);
        x.call(0);
        x.years(1);
        Check.same("who is called down sits down behind the rain", x.gargoyle(0, 2), 45);
        x.years(1);
        Check.same("and then it isn't worn again", x.gargoyle(0, 2), 45);
        // One who leaves in a year has sat there in its rain.
        GutterSeats left = Check.told("gargoyle 1 1 50;person 9 9 1;rain 5;");
        left.lift(0, 0);
        left.years(1);
        Check.same("one leaves behind the rain", left.gargoyle(0, 2), 50);
        Check.same("one has left", left.person(0, 4), NONE);
        left.years(1);
        Check.same("nobody sits there", left.gargoyle(0, 2), 45);
    }

    /** 'beside' of one alone, of two and of more; each is asked ahead of any wear. */
    private static void ring() {
        Check.same("of one alone its own twice", behind(1, "gargoyle 1 1 7;wears beside-10;").gargoyle(0, 2), 7 - 4);
        GutterSeats two = behind(1, "gargoyle 1 1 30;gargoyle 1 1 8;wears (stone=30)*(beside-6);");
        Check.same("of two that of the other one twice", two.gargoyle(0, 2), 30 - 10);
        two = behind(1, "gargoyle 1 1 8;gargoyle 1 1 30;wears (stone=30)*(beside-6);");
        Check.same("of two, the second", two.gargoyle(1, 2), 30 - 10);
        for (int many = 3; many <= 8; many++) {
            for (int one = 0; one < many; one++) {
                int before = (one + many - 1) % many;
                int after = (one + 1) % many;
                StringBuilder text = new StringBuilder();
                for (int i = 0; i < many; i++) {
                    text.append("gargoyle 1 1 ").append(i == one ? 99 : i == before ? 3 : i == after ? 5 : 40).append(';');
                }
                GutterSeats x = behind(1, text + "wears (stone=99)*beside;");
                Check.same("the one before and the one after, of " + many, x.gargoyle(one, 2), 99 - 8);
            }
        }
    }

    private static void atItsTurn() {
        GutterSeats x = behind(1, "gargoyle 1 1 20;gargoyle 1 1 20;gargoyle 1 1 20;wears beside-30;");
        Check.same("the first: 20 and 20", x.gargoyle(0, 2), 20 - 10);
        Check.same("the second: 10, worn already, and 20", x.gargoyle(1, 2), 20 - 0);
        Check.same("the third: 20 and 10, worn already", x.gargoyle(2, 2), 20 - 0);
        // A loaf counts 0 for those beside it, and isn't worn itself.
        GutterSeats loaf = behind(1, "gargoyle 1 1 5;gargoyle 1 1 9;wears 5-beside;");
        Check.same("the first one: 5 less 18", loaf.gargoyle(0, 2), 5);
        loaf = behind(1, "gargoyle 1 1 5;gargoyle 1 1 9;wears 23-beside;");
        Check.same("the first one is a LOAF by now", loaf.gargoyle(0, 2), 0);
        Check.same("for the second one it is 0", loaf.gargoyle(1, 2), 0);
        // SITS: the stone is worn, one's age is 1 more, one's face has come nearer.
        String person = "person 3 3 29 of 0;";
        Check.same("stone is worn by then", behind(1, "gargoyle 5 5 50;rain 4;" + person + "sits stone=46;").person(0, 4), 0);
        Check.same("age is 1 more by then", behind(1, "gargoyle 5 5 50;" + person + "sits age=30;").person(0, 4), 0);
        Check.same("unlike is less by then", behind(1, "gargoyle 5 5 50;" + person + "sits unlike=2;").person(0, 4), 0);
    }

    /** Where one who is most like gargoyle 1 sits behind a year. */
    private static void family(String person, String rule, int due) {
        GutterSeats x = behind(1, "gargoyle 1 1 50;gargoyle 5 5 50;" + person + "sits " + rule + ";");
        Check.same(person + " by " + rule, x.person(0, 4), due);
    }

    private static void familyOfSits() {
        family("person 5 5 1 of 1;", "family=1", 1);
        family("person 5 5 1 of 1;", "family=0", NONE);
        family("person 5 5 1 of 0;", "family=1", NONE);
        family("person 5 5 1 of 0;", "family=0", 1);
        family("person 5 5 1;", "family=1", NONE);
        family("person 5 5 1;", "family=0", 1);
        family("orphan 5 5 1 of 1;", "family=1", 1);
        family("orphan 5 5 1 of 0;", "family=0", 1);
        GutterSeats x = Check.told("gargoyle 1 1 50;gargoyle 5 5 50;person 5 5 1 of 0;sits family;");
        x.lift(0, 0);
        x.years(1);
        Check.same("one who sits at the one of the FAMILY stays", x.person(0, 4), 0);
        x.leave(0, 1);
        x.years(1);
        Check.same("which isn't that any more", x.person(0, 4), NONE);
        x.years(1);
        Check.same("but the other one is", x.person(0, 4), 1);
    }

    private static void ages() {
        GutterSeats x = Check.told("person 1 1 97;person 1 1 98;person 1 1 99;person 1 1 0;orphan 1 1 98;");
        x.years(1);
        int[] due = {98, 99, 99, 1, 99};
        for (int person = 0; person < due.length; person++) {
            Check.same("AGE is 1 more, 99 at most", x.person(person, 2), due[person]);
        }
        x.years(20);
        int[] later = {99, 99, 99, 21, 99};
        for (int person = 0; person < later.length; person++) {
            Check.same("AGE is 20 more, 99 at most", x.person(person, 2), later[person]);
        }
    }

    private static int jawBehindAYear(int age, String certain) {
        return behind(1, "gargoyle 9 9 99;person 1 1 " + age + " of 0;" + certain).person(0, 0);
    }

    private static void certain() {
        Check.same("30 then, CERTAIN is 30", jawBehindAYear(29, "certain 30;"), 2);
        Check.same("29 then, CERTAIN is 30", jawBehindAYear(28, "certain 30;"), 1);
        Check.same("31 then, CERTAIN is 30", jawBehindAYear(30, "certain 30;"), 2);
        Check.same("30 then, CERTAIN isn't told", jawBehindAYear(29, ""), 2);
        Check.same("29 then, CERTAIN isn't told", jawBehindAYear(28, ""), 1);
        Check.same("99 then, CERTAIN is 99", jawBehindAYear(98, "certain 99;"), 2);
        Check.same("98 then, CERTAIN is 99", jawBehindAYear(97, "certain 99;"), 1);
        Check.same("99 for good, CERTAIN is 99", jawBehindAYear(99, "certain 99;"), 2);
        Check.same("1 then, CERTAIN is 0", jawBehindAYear(0, "certain 0;"), 2);
        Check.same("1 then, CERTAIN is 1", jawBehindAYear(0, "certain 1;"), 2);
        Check.same("1 then, CERTAIN is 2", jawBehindAYear(0, "certain 2;"), 1);
    }

    private static void orphansAndFamilies() {
        GutterSeats x = behind(5, "gargoyle 9 9 99;rain 0;orphan 1 1 50 of 0;person 1 1 50;person 1 1 50 of 0;");
        Check.same("an orphan's face stays, whatever FAMILY there is", x.person(0, 0), 1);
        Check.same("an orphan's BROW too", x.person(0, 1), 1);
        Check.same("a face without a FAMILY stays", x.person(1, 0), 1);
        Check.same("a face of the FAMILY doesn't", x.person(2, 0), 6);
        Check.same("an orphan's FAMILY counts as any one's else", x.gargoyle(0, 4), 5);
        x.leave(2, NONE);
        x.leave(1, 0);
        x.leave(0, NONE);
        x.years(1);
        Check.same("one who has left it stays", x.person(2, 0), 6);
        Check.same("one who has come to it doesn't", x.person(1, 0), 2);
        Check.same("an orphan who has left it stays an orphan", x.person(0, 5), 1);
    }

    private static void oneNearer() {
        GutterSeats x = behind(1, "gargoyle 9 0 99;rain 0;person 0 9 50 of 0;person 8 1 50 of 0;person 9 0 50 of 0;"
            + "person 9 5 50 of 0;person 5 0 50 of 0;");
        int[][] due = {{1, 8}, {9, 0}, {9, 0}, {9, 4}, {6, 0}};
        for (int person = 0; person < due.length; person++) {
            Check.same("JAW comes 1 nearer, if it is another", x.person(person, 0), due[person][0]);
            Check.same("BROW comes 1 nearer, if it is another", x.person(person, 1), due[person][1]);
        }
        x.years(7);
        Check.same("8 of 9", x.person(0, 0), 8);
        x.years(1);
        Check.same("9 of 9", x.person(0, 0), 9);
        x.years(1);
        Check.same("and stays so", x.person(0, 0), 9);
        Check.same("and stays so", x.person(0, 1), 0);
        GutterSeats loaf = behind(1, "gargoyle 9 9 3;person 5 5 50 of 0;");
        Check.same("nearer to a LOAF's JAW, which is one by then", loaf.person(0, 0), 4);
        GutterSeats told = behind(1, "gargoyle 9 9 0;person 5 5 50 of 0;");
        Check.same("nearer to a LOAF's BROW, which was told so", told.person(0, 1), 4);
    }

    /** Where one who was lifted up sits behind a year by a rule. */
    private static void stays(String rule, int due) {
        GutterSeats x = Check.told("gargoyle 1 1 50;gargoyle 5 5 50;person 1 1 1;sits " + rule + ";");
        x.lift(0, 1);
        x.years(1);
        Check.same("one who sits, by " + rule, x.person(0, 4), due);
    }

    private static void staysOrLeaves() {
        stays("1", 1);
        stays("0", NONE);
        stays(BELOW, NONE);
        stays("2", 1);
        stays(GREATEST, 1);
        stays(LEAST, NONE);
        stays("unlike=8", 1);
        stays("unlike=0", NONE);
    }

    private static void sitsDown(String rule, int due) {
        Check.same("one who doesn't sit, by " + rule,
            behind(1, "gargoyle 1 1 50;gargoyle 5 5 50;person 1 2 1;sits " + rule + ";").person(0, 4), due);
    }

    private static void sitsDown() {
        sitsDown("1", 0);
        sitsDown("0", NONE);
        sitsDown(BELOW, NONE);
        sitsDown("2", 0);
        sitsDown(GREATEST, 0);
        sitsDown(LEAST, NONE);
        sitsDown("unlike=1", 0);
        sitsDown("unlike=7", NONE);
        Check.same("without GARGOYLES", behind(1, "person 1 2 1;sits 1;").person(0, 4), NONE);
        Check.same("all places are taken", behind(1, "gargoyle 1 1 9;orphan 1 1 1;orphan 1 1 1;sits 1;").person(1, 4), NONE);
        Check.same("a LOAF is a place, too", behind(1, "gargoyle 1 1 0;orphan 0 2 1;").person(0, 4), 0);
    }

    private static void norLeftInThisYear() {
        // Person 0 leaves place 1 and would sit at place 0 at once, were it not in this year.
        GutterSeats x = Check.told("gargoyle 1 1 50;gargoyle 9 9 50;person 1 1 1;");
        x.lift(0, 1);
        x.years(1);
        Check.same("one who left in this YEAR doesn't sit down", x.person(0, 4), NONE);
        x.years(1);
        Check.same("in the next one", x.person(0, 4), 0);
        // The place is free for the people behind in the same year, not for those ahead.
        GutterSeats behind = Check.told("gargoyle 1 1 50;orphan 9 9 1;orphan 1 1 1;");
        behind.lift(0, 0);
        behind.years(1);
        Check.same("at the turn of the one behind the place is free", behind.person(1, 4), 0);
        GutterSeats ahead = Check.told("gargoyle 1 1 50;orphan 1 1 1;orphan 9 9 1;");
        ahead.lift(1, 0);
        ahead.years(1);
        Check.same("at the turn of the one ahead it wasn't", ahead.count(6), 0);
    }

    private static void leastUnlike() {
        String text = "gargoyle 3 3 50;gargoyle 5 5 50;gargoyle 3 5 50;";
        Check.same("of like ones the least", behind(1, text + "person 4 4 1;").person(0, 4), 0);
        Check.same("the least UNLIKE one", behind(1, text + "person 4 5 1;").person(0, 4), 1);
        Check.same("not the last", behind(1, text + "person 3 5 1;").person(0, 4), 2);
        GutterSeats x = Check.told(text + "person 4 4 1;person 4 4 1;person 4 4 1;person 4 4 1;");
        x.lift(3, 0);
        x.years(1);
        Check.same("where nobody sits, of like ones the least", x.person(0, 4), 1);
        Check.same("the next one", x.person(1, 4), 2);
        Check.same("no place is left", x.person(2, 4), NONE);
        Check.same("SITS is asked for that one alone",
            behind(1, text + "person 3 3 1;sits unlike=2;").person(0, 4), NONE);
    }

    private static void withoutSits() {
        Check.same("UNLIKE by 2 sits down", behind(1, "gargoyle 5 5 50;orphan 5 3 1;").person(0, 4), 0);
        Check.same("UNLIKE by 1 and 1 sits down", behind(1, "gargoyle 5 5 50;orphan 6 4 1;").person(0, 4), 0);
        Check.same("UNLIKE by 3 doesn't", behind(1, "gargoyle 5 5 50;orphan 5 2 1;").person(0, 4), NONE);
        Check.same("UNLIKE by 1 and 2 doesn't", behind(1, "gargoyle 5 5 50;orphan 4 7 1;").person(0, 4), NONE);
        GutterSeats x = Check.told("gargoyle 5 5 50;gargoyle 5 5 50;orphan 5 3 1;orphan 5 2 1;");
        x.lift(0, 0);
        x.lift(1, 1);
        x.years(1);
        Check.same("UNLIKE by 2 stays", x.person(0, 4), 0);
        Check.same("UNLIKE by 3 leaves", x.person(1, 4), NONE);
    }

    private static void theYear() {
        GutterSeats x = Check.told("gargoyle 1 1 99;orphan 1 1 1;wears year+1;sits year=2;");
        Check.same("YEAR 0 at first", x.count(2), 0);
        x.years(1);
        Check.same("the first YEAR is 0 in WEARS", x.gargoyle(0, 2), 98);
        Check.same("the YEAR is one more then", x.count(2), 1);
        x.years(1);
        Check.same("the second YEAR is 1 in WEARS", x.gargoyle(0, 2), 96);
        Check.same("and 1 in SITS", x.person(0, 4), NONE);
        x.years(1);
        Check.same("the third YEAR is 2 in SITS", x.person(0, 4), 0);
        x.years(1);
        Check.same("the fourth isn't", x.person(0, 4), NONE);
    }

    private static void intsThatWrap() {
        wear("(" + GREATEST + "+1)=" + LEAST, 1);
        wear("(" + LEAST + "-1)=" + GREATEST, 1);
        wear("(" + GREATEST + "*2)=(0-2)", 1);
        wear("(" + LEAST + "*" + BELOW + ")=" + LEAST, 1);
        wear("(0-" + LEAST + ")=" + LEAST, 1);
        wear("(" + LEAST + "/" + BELOW + ")=" + LEAST, 1);
        wear("256*256*256*256+5", 5);
        wear("256*256*256*128<0", 1);
        wear(LEAST + "<" + GREATEST, 1);
        wear(GREATEST + "<" + LEAST, 0);
        wear("(" + LEAST + "+" + LEAST + ")=0", 1);
    }

    private static void cutDown() {
        wear("7/2", 3);
        wear("7/7", 1);
        wear("7/8", 0);
        wear("10+(0-7)/2", 7);
        wear("10+7/(0-2)", 7);
        wear("10+(0-7)/(0-2)", 13);
        wear("10+(0-1)/2", 10);
        wear("7/0", 0);
        wear("5+7/0", 5);
        wear("5+0/0", 5);
        wear("5+" + LEAST + "/0", 5);
        wear("7/(stone-99)+3", 3);
        wear("7/0/0+2", 2);
        wear("20/3/2", 3);
        wear("20/(3/2)", 20);
        wear("9-4-3", 2);
        wear("9-(4-3)", 8);
        wear("2+3*4-1", 13);
        wear("7*3/2", 10);
        wear("3/2*7", 7);
    }

    private static void whatHolds() {
        wear("(0-1) and 1", 1);
        wear("(0-1) or 0", 1);
        wear("not (0-1)", 0);
        wear("not 0", 1);
        wear("not 7", 0);
        wear("7 and 9", 1);
        wear("7 and 0", 0);
        wear("0 and 7", 0);
        wear("0 or 7", 1);
        wear("7 or 0", 1);
        wear("0 or 0", 0);
        wear("6<7", 1);
        wear("7<7", 0);
        wear("8<7", 0);
        wear("7=7", 1);
        wear("6=7", 0);
        wear("(7=7)+(6<7)+(not 0)+(1 or 1)+(1 and 1)", 5);
        wear("1 or 0 and 0", 1);
        wear("0 and 0 or 1", 1);
        wear("not 1 or 1", 1);
        wear("not 1 and 0", 0);
        wear("not (1 and 0)", 1);
        wear("not 3<2", 1);
        wear("not not 3", 1);
        wear("not not not 3", 0);
    }

    private static void latestForty() {
        GutterSeats x = Check.told("gargoyle 1 1 99;rain 0;");
        for (int i = 1; i <= 40; i++) {
            x.years(1);
            Check.same("ACTS that are kept", x.count(10), i);
        }
        Check.same("the 40th is undone", x.undo(), 39);
        x.years(1);
        Check.same("40 again", x.count(10), 40);
        x.years(1);
        Check.same("at most 40", x.count(10), 40);
        for (int left = 39; left >= 0; left--) {
            Check.same("how many are left", x.undo(), left);
            Check.same("the YEAR as it was ahead of that ACT", x.count(2), 1 + left);
        }
        Check.same("there is none", x.undo(), NONE);
        Check.same("the 41st has put out the first one", x.count(2), 1);
        GutterSeats forty = Check.told("gargoyle 1 1 99;rain 0;");
        for (int i = 0; i < 40; i++) {
            forty.years(1);
        }
        for (int i = 0; i < 40; i++) {
            forty.undo();
        }
        Check.same("all of 40 are undone", forty.count(2), 0);
        GutterSeats image = Check.told("gargoyle 1 1 99;rain 0;");
        for (int i = 0; i < 45; i++) {
            image.years(1);
        }
        image.image();
        image.undo();
        image.undo();
        image.cut(0, 1, 1);
        image.restore();
        Check.same("an image keeps 40 of them", image.count(10), 40);
        for (int i = 0; i < 40; i++) {
            image.undo();
        }
        Check.same("the latest ones", image.count(2), 5);
        Check.same("no more", image.undo(), NONE);
    }

    /** As many of all as there may be, and all of them changed: all is as it was. */
    private static void allOfEightUndone() {
        StringBuilder text = new StringBuilder();
        for (int i = 0; i < 8; i++) {
            text.append("gargoyle ").append(i).append(' ').append(9 - i).append(' ').append(40 + i).append(';');
        }
        for (int i = 0; i < 8; i++) {
            text.append("person ").append(9 - i).append(' ').append(i + 1).append(' ').append(50 + i).append(" of ")
                .append(7 - i).append(';');
        }
        GutterSeats x = Check.told(text + "rain 9;certain 51;sits year=19;");
        String due = eight(x);
        x.years(20);
        for (int i = 0; i < 8; i++) {
            Check.same("a LOAF by now", x.gargoyle(i, 2), 0);
            Check.same("JAW has changed", x.person(i, 0), 0);
            Check.same("BROW has changed", x.person(i, 1), 0);
            Check.same("one sits by now", x.person(i, 4), i);
            Check.same("AGE has changed", x.person(i, 2), 70 + i);
            x.leave(i, i);
        }
        x.cut(7, 1, 2);
        for (int left = 9; left >= 0; left--) {
            Check.same("how many are left", x.undo(), left);
        }
        Picture.same("all of 8 and 8 undone", eight(x), due);
    }

    private static String eight(GutterSeats x) {
        StringBuilder all = new StringBuilder("year " + x.count(2) + "\n");
        for (int i = 0; i < 8; i++) {
            for (int what = 0; what < 5; what++) {
                all.append("gargoyle ").append(i).append(' ').append(what).append(": ").append(x.gargoyle(i, what)).append('\n');
                all.append("person ").append(i).append(' ').append(what).append(": ").append(x.person(i, what)).append('\n');
            }
        }
        return all.toString();
    }

    /** Each act alone, undone: all is as it was but how many acts are kept. */
    private static void actsAreUndone() {
        for (int act = 0; act < 7; act++) {
            GutterSeats x = Picture.lived();
            int kept = x.count(10);
            switch (act) {
                case 0 -> x.years(20);
                case 1 -> x.cut(2, 9, 9);
                case 2 -> x.call(1);
                case 3 -> x.lift(2, 2);
                case 4 -> x.leave(0, 2);
                case 5 -> x.leave(1, NONE);
                default -> x.leave(2, 0);
            }
            Check.same("an ACT is kept", x.count(10), kept + 1);
            Check.same("it is UNDONE", x.undo(), kept);
            Picture.same("act " + act + " undone", Picture.whole(x, Picture.NO_STATUS),
                Picture.whole(Picture.lived(), Picture.NO_STATUS));
        }
    }
}

/** The text's language: what a rule is worth, and the faults with their places (promises 2 to 4). */
public final class FaultsTest {
    private static final String GARGOYLE = "gargoyle 1 2 3;";
    private static final String PERSON = "person 1 2 3;";

    public static void main(String[] args) {
        tokens();
        lines();
        tooMuch();
        unknown();
        seconds();
        levels();
        firstOfAll();
        rulesOfWears();
        rulesOfSits();
        wrappingRules();
        longRule();
        Check.end();
    }

    private static void fault(String text, int code, int place) {
        GutterSeats seats = new GutterSeats();
        Check.same("fault of " + text, Check.tell(seats, text), code);
        Check.same("place in " + text, seats.fault(), place);
        Check.same("refused texts of " + text, seats.count(13), code == 0 ? 0 : 1);
    }

    private static void good(String text) {
        fault(text, 0, -1);
    }

    private static void tokens() {
        good("");
        good("  \n ");
        good("gargoyle1 2 3;");
        good("\n gargoyle\n1\n2\n3\n;\n");
        good("person 0001 0 0099;");
        good("wears(1)+2;");
        fault("#", 1, 0);
        fault("   ?", 1, 3);
        fault("Gargoyle 1 2 3;", 1, 0);
        fault("gargoyle\t1 2 3;", 1, 8);
        fault("gargoyle\r1 2 3;", 1, 8);
        fault("gargoyle 1 2 3\u00ff;", 1, 14);
        fault("gargoyle 1 2 3;\u0000", 1, 15);
        fault("gargoyles 1 2 3;", 1, 0);
        fault("gargoyl 1 2 3;", 1, 0);
        fault("wears 1 > 2;", 1, 8);
        fault("gargoyle 1 2 -3;", 1, 13);
    }

    private static void lines() {
        fault(";", 1, 0);
        fault("1;", 1, 0);
        fault("of 1;", 1, 0);
        fault("stone 1;", 1, 0);
        fault(GARGOYLE + ";", 1, 15);
        fault("gargoyle", 1, 8);
        fault("gargoyle  ", 1, 10);
        fault("gargoyle 1 2 3", 1, 14);
        fault("gargoyle 1 2;", 1, 12);
        fault("gargoyle 1 2 3 4;", 1, 15);
        fault("gargoyle 1 2 3 of 0;", 1, 15);
        fault("gargoyle 1 2 rain;", 1, 13);
        fault("person 1 2 3 0;", 1, 13);
        fault("person 1 2 of 0;", 1, 11);
        fault(GARGOYLE + "person 1 2 3 of;", 1, 30);
        fault(GARGOYLE + "person 1 2 3 of 0 0;", 1, 33);
        fault("rain;", 1, 4);
        fault("rain", 1, 4);
        fault("rain 1 2", 1, 8);
        fault("rain 1 x;", 1, 7);
        fault("certain;", 1, 7);
        fault("certain 1 2;", 1, 10);
        fault("wears;", 1, 5);
        fault("wears", 1, 5);
        fault("wears 1", 1, 7);
        fault("wears 1 2;", 1, 8);
        fault("wears 1+;", 1, 8);
        fault("wears +1;", 1, 6);
        fault("wears -1;", 1, 6);
        fault("wears ();", 1, 7);
        fault("wears (1;", 1, 8);
        fault("wears 1);", 1, 7);
        fault("wears (1", 1, 8);
        fault("wears 1<2<3;", 1, 9);
        fault("wears 1=2<3;", 1, 9);
        fault("wears 1 stone;", 1, 8);
        fault("wears 1 not 2;", 1, 8);
        fault("wears 1 x;", 1, 8);
        fault("wears not;", 1, 9);
        good("wears (1<2)<3;");
        good("wears not 1<2 and not not 3=4 or 5;");
        good(GARGOYLE + "person 1 2 3 of 0;orphan 1 2 3 of 0;orphan 9 9 99;rain 0;certain 0;wears 1;sits 1;");
    }

    private static void tooMuch() {
        good("gargoyle 9 9 99;");
        fault("gargoyle 10 9 99;", 2, 9);
        fault("gargoyle 9 10 99;", 2, 11);
        fault("gargoyle 9 9 100;", 2, 13);
        fault("gargoyle 00001 9 9;", 2, 9);
        fault("person 10 9 99;", 2, 7);
        fault("person 9 10 99;", 2, 9);
        fault("orphan 9 9 100;", 2, 11);
        fault("rain 10;", 2, 5);
        fault("rain 9 9 10;", 2, 9);
        fault("certain 100;", 2, 8);
        good("certain 99;");
        good("rain 1 2 3 4 5 6 7 8;");
        fault("rain 1 2 3 4 5 6 7 8 9;", 2, 21);
        fault("rain 1 2 3 4 5 6 7 8 10000;", 2, 21);
        good(GARGOYLE.repeat(8));
        fault(GARGOYLE.repeat(9), 2, 120);
        fault(GARGOYLE.repeat(8) + "gargoyle", 2, 120);
        good(PERSON.repeat(8));
        fault(PERSON.repeat(9), 2, 104);
        fault("orphan 1 2 3;".repeat(8) + "person", 2, 104);
        fault(PERSON.repeat(8) + "orphan", 2, 104);
        good("wears 9999;");
        good("sits 0000;");
        fault("wears 10000;", 2, 6);
        fault("sits 1+00000;", 2, 7);
        fault("wears 1 10000;", 1, 8);
        fault("gargoyle 1 2 3 10000;", 1, 15);
    }

    private static void unknown() {
        fault("person 1 2 3 of 0;", 3, 16);
        fault(GARGOYLE + "person 1 2 3 of 1;", 3, 31);
        fault(GARGOYLE.repeat(8) + "person 1 2 3 of 8;", 3, 136);
        fault(GARGOYLE + "person 1 2 3 of 9999;", 3, 31);
        fault(GARGOYLE + "person 1 2 3 of 10000;", 2, 31);
        fault("orphan 1 2 3 of 0;" + GARGOYLE, 3, 16);
        fault("wears age;", 3, 6);
        fault("wears unlike;", 3, 6);
        fault("wears family;", 3, 6);
        fault("sits rain;", 3, 5);
        fault("sits beside;", 3, 5);
        fault("wears x;", 3, 6);
        fault("wears zaz;", 3, 6);
        for (String word : new String[] {"gargoyle", "person", "orphan", "of", "certain", "wears", "sits", "or", "and"}) {
            fault("wears " + word + ";", 3, 6);
            fault("sits 1*" + word + ";", 3, 7);
        }
        fault("wears 1+gargoyle;", 3, 8);
        fault("wears 1+not 2;", 3, 8);
        fault("wears 1<not 2;", 3, 8);
        fault("wears or 2;", 3, 6);
        fault("wears 1 and and 2;", 3, 12);
        fault("wears not or;", 3, 10);
        good("wears rain+stone+beside+year;");
        good("sits unlike+age+stone+family+year;");
    }

    private static void seconds() {
        fault("rain 1;rain 2;", 5, 7);
        fault("certain 1;certain 1;", 5, 10);
        fault("certain 30;certain", 5, 11);
        fault("wears 1;sits 1;wears 2;", 5, 15);
        fault("sits 1;wears 1;sits;", 5, 15);
    }

    private static void levels() {
        good("wears (((((1)))));");
        good("wears (((((not stone)))));");
        fault("wears ((((((1))))));", 2, 12);
        fault("wears ((((((stone))))));", 2, 12);
        fault("wears ((((((x))))));", 2, 12);
        fault("wears ((((((or))))));", 2, 12);
        fault("wears ((((((not 1))))));", 2, 12);
        fault("wears (((((((1)))))));", 2, 12);
        fault("wears ((((((10000))))));", 2, 12);
        fault("wears ((((((", 1, 12);
        fault("wears (((((( ", 1, 13);
        fault("wears (((((())))));", 1, 12);
        fault("wears ((((((+1))))));", 1, 12);
        fault("wears ((((((#", 1, 12);
        good("wears (((((1)))))+(((((2)))));");
        good("wears not not not not not not 1;");
        fault("wears not not not not not not not 1;", 2, 30);
        fault("wears not not not not not not x;", 3, 30);
        good("wears not not not(not not not(not not not 1));");
        good("wears not not not not not not 1 and not not not not not not 1;");
    }

    private static void firstOfAll() {
        fault("gargoyle 10 10 100; #", 2, 9);
        fault("person 1 2 3 of 5; rain 99;", 3, 16);
        fault("rain 1;rain 99 99", 5, 7);
        GutterSeats seats = new GutterSeats();
        Check.put(seats, GARGOYLE + "gargoyle 1 2");
        Check.same("only the first bytes", seats.tower(15), 0);
        Check.same("one gargoyle", seats.count(0), 1);
        Check.put(seats, GARGOYLE + "#");
        Check.same("with the byte behind them", seats.tower(16), 1);
        Check.same("its place", seats.fault(), 15);
        Check.same("all stays", seats.count(0), 1);
    }

    /** How much a gargoyle of stone 99 alone loses in its first year by a rule. */
    private static void wears(String rule, int worth) {
        GutterSeats seats = Check.told("gargoyle 1 2 99;rain 7;wears " + rule + ";");
        Check.same("wears " + rule, 99 - seats.then(0, 1, 0), worth);
    }

    private static void rulesOfWears() {
        wears("5", 5);
        wears("20", 20);
        wears("21", 20);
        wears("9999", 20);
        wears("0-1", 0);
        wears("2+3*4", 14);
        wears("(2+3)*4", 20);
        wears("(2+3)*3", 15);
        wears("9-3-2", 4);
        wears("40/4/2", 5);
        wears("7/2*2", 6);
        wears("7/0", 0);
        wears("7/0+3", 3);
        wears("5+(0-7)/2", 2);
        wears("5+(0-7)/(0-2)", 8);
        wears("1<2", 1);
        wears("2<1", 0);
        wears("2=2", 1);
        wears("2=1", 0);
        wears("not 0", 1);
        wears("not 5", 0);
        wears("not not 5", 1);
        wears("not 1<2", 0);
        wears("not 2 < 1", 1);
        wears("(not 2) < 1", 1);
        wears("5 and 6", 1);
        wears("5 and 0", 0);
        wears("5 or 0", 1);
        wears("0 or 0", 0);
        wears("1 or 1 and 0", 1);
        wears("(1 or 1) and 0", 0);
        wears("not 0 and 0", 0);
        wears("0 and 0 or 1", 1);
        wears("1+1<3", 1);
        wears("3<1+1", 0);
        wears("rain", 7);
        wears("rain*2", 14);
        wears("stone-90", 9);
        wears("beside-190", 8);
        wears("year+4", 4);
        GutterSeats seats = Check.told("gargoyle 1 1 10;gargoyle 1 1 20;gargoyle 1 1 30;wears beside/10;");
        Check.same("beside of the first", seats.then(0, 1, 0), 10 - (30 + 20) / 10);
        Check.same("beside of the second, by what is so at its turn", seats.then(1, 1, 0), 20 - (5 + 30) / 10);
        Check.same("beside of the third", seats.then(2, 1, 0), 30 - (17 + 5) / 10);
        seats = Check.told("gargoyle 1 1 10;gargoyle 1 1 20;wears beside/10;");
        Check.same("of two the other one twice", seats.then(0, 1, 0), 10 - 4);
        Check.same("of two the other one twice, at its turn", seats.then(1, 1, 0), 20 - 1);
        seats = Check.told("gargoyle 1 1 99;wears year;");
        Check.same("0 and 1 and 2 and 3", seats.then(0, 4, 0), 99 - 6);
    }

    /** Whether a person sits behind the first year by a rule. */
    private static void sits(String rule, int place) {
        GutterSeats seats = Check.told("gargoyle 1 2 30;person 2 4 19 of 0;rain 5;certain 99;sits " + rule + ";");
        Check.same("sits " + rule, seats.where(0, 1, 0), place);
    }

    private static void rulesOfSits() {
        sits("1", 0);
        sits("0", -1);
        sits("0-1", -1);
        sits("5", 0);
        sits("unlike=3", 0);
        sits("unlike-3", -1);
        sits("age=20", 0);
        sits("age=19", -1);
        sits("stone=25", 0);
        sits("stone=30", -1);
        sits("family", 0);
        sits("not family", -1);
        sits("year", -1);
        sits("year=0", 0);
    }

    private static void wrappingRules() {
        wears("9999*9999*9999*9999=9999*9999*9999*9999", 1);
        int four = 9999 * 9999 * 9999 * 9999;
        wears("9999*9999*9999*9999<0", four < 0 ? 1 : 0);
        int most = 2147 * 1000 * 1000 + 483 * 1000 + 647;
        Check.same("the greatest int", most, Integer.MAX_VALUE);
        wears("2147*1000*1000+483*1000+647+1<0", 1);
        wears("(0-2147*1000*1000-483*1000-648)/(0-1)<0", 1);
        wears("(0-2147*1000*1000-483*1000-648)/(0-1)+5", 0);
    }

    /** As long as a text may be, with as much waiting as there may be at a time. */
    private static void longRule() {
        StringBuilder rule = new StringBuilder("wears 0");
        while (rule.length() < 696) {
            rule.append("+1");
        }
        good(rule.append(";").toString());
        String level = "0 or 1 and 1<1+1*";
        String whole = (level + "(").repeat(5) + level + "1" + ")".repeat(5);
        wears(whole, 1);
        good("gargoyle 1 2 3;".repeat(8) + "person 1 2 3 of 7;".repeat(8) + " ".repeat(700 - 120 - 144));
    }
}

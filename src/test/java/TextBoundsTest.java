/** "Terms": each bound of the text, with what is just inside and what is just outside of it; a text
    with a fault changes nothing but STATUS 0, the fault's place and the tape, which is empty then. */
public final class TextBoundsTest {
    private static final int NONE = GutterSeats.NONE;
    private static final String GARGOYLE = "gargoyle 1 2 3;";
    private static final String PERSON = "person 1 2 3;";
    private static final String ORPHAN = "orphan 1 2 3;";
    private static final String AGED = Picture.memory(Picture.aged(), Picture.NO_STATUS);

    public static void main(String[] args) {
        gargoyles();
        people();
        rain();
        certain();
        families();
        bytes();
        words();
        wordsWithAnotherLetter();
        numbers();
        missingTokens();
        tokensTooMany();
        linesOfExpr();
        levels();
        nots();
        wordsOfParts();
        seconds();
        leastOfOneToken();
        firstAlongTheText();
        length();
        Check.end();
    }

    private static GutterSeats inside(String sentence, String text) {
        GutterSeats x = Picture.aged();
        Check.same(sentence + ": " + text, Check.tell(x, text), 0);
        Check.same(sentence + ", no place: " + text, x.fault(), NONE);
        Check.same(sentence + ", no more refused: " + text, x.count(13), 1);
        return x;
    }

    private static void outside(String sentence, String text, int code, int place) {
        GutterSeats x = Picture.aged();
        Check.same(sentence + ": " + text, Check.tell(x, text), code);
        Check.same(sentence + ", place: " + text, x.fault(), place);
        Check.same(sentence + ", the tape: " + text, x.count(12), 0);
        Picture.same(sentence + ": " + text, Picture.memory(x, new int[] {1, 0, 0}), AGED);
    }

    /** The text up to its last token is fine, and the fault is there. */
    private static void outsideAtEnd(String sentence, String ahead, String token, int code) {
        outside(sentence, ahead + token, code, ahead.length());
        outside(sentence, ahead + token + " ;#", code, ahead.length());
    }

    private static void gargoyle(String sentence, String numbers, int jaw, int brow, int stone) {
        GutterSeats x = inside(sentence, "gargoyle " + numbers + ";");
        Check.same(sentence + ": jaw", x.gargoyle(0, 0), jaw);
        Check.same(sentence + ": brow", x.gargoyle(0, 1), brow);
        Check.same(sentence + ": stone", x.gargoyle(0, 2), stone);
    }

    private static void gargoyles() {
        for (int many = 0; many <= 8; many++) {
            GutterSeats x = inside("GARGOYLES (at most 8)", GARGOYLE.repeat(many));
            Check.same("GARGOYLES: so many", x.count(0), many);
        }
        outsideAtEnd("the first TOKEN of the 9th GARGOYLE", GARGOYLE.repeat(8), "gargoyle", 2);
        outside("the first TOKEN of the 9th GARGOYLE", GARGOYLE.repeat(9), 2, 120);
        outside("the 9th GARGOYLE, with a fault behind", GARGOYLE.repeat(8) + "gargoyle 10", 2, 120);
        outside("the 9th GARGOYLE behind others", GARGOYLE.repeat(8) + "rain 1;" + GARGOYLE, 2, 127);
        gargoyle("JAW, BROW of 0", "0 0 99", 0, 0, 99);
        gargoyle("JAW, BROW of 9", "9 9 99", 9, 9, 99);
        gargoyle("STONE of 1 is no LOAF", "9 8 1", 9, 8, 1);
        gargoyle("STONE of 0 is a LOAF, also of one that is told so", "9 8 0", 0, 0, 0);
        outsideAtEnd("a GARGOYLE's JAW of 10", "gargoyle ", "10", 2);
        outsideAtEnd("a GARGOYLE's BROW of 10", "gargoyle 9 ", "10", 2);
        outsideAtEnd("STONE of 100", "gargoyle 9 9 ", "100", 2);
        outsideAtEnd("STONE of 9999", "gargoyle 9 9 ", "9999", 2);
    }

    private static void person(String sentence, String line, int... answers) {
        GutterSeats x = inside(sentence, GARGOYLE + line);
        for (int what = 0; what < answers.length; what++) {
            Check.same(sentence + ": " + what, x.person(0, what), answers[what]);
        }
    }

    private static void people() {
        for (int many = 0; many <= 8; many++) {
            Check.same("PEOPLE: so many", inside("PEOPLE (at most 8)", PERSON.repeat(many)).count(1), many);
            String mixed = ORPHAN.repeat(8 - many) + PERSON.repeat(many);
            GutterSeats x = inside("PEOPLE and orphans (at most 8)", mixed);
            Check.same("orphans are PEOPLE", x.count(1), 8);
            Check.same("the first is an orphan, unless all aren't", x.person(0, 5), many == 8 ? 0 : 1);
            Check.same("the last is no orphan, unless all are", x.person(7, 5), many == 0 ? 1 : 0);
            outsideAtEnd("the first TOKEN of the 9th PERSON", mixed, "person", 2);
            outsideAtEnd("the first TOKEN of the 9th PERSON, an orphan", mixed, "orphan", 2);
        }
        inside("8 of each", GARGOYLE.repeat(8) + PERSON.repeat(4) + ORPHAN.repeat(4));
        person("all of 0", "person 0 0 0;", 0, 0, 0, NONE, NONE, 0);
        person("all as much as may be", "person 9 9 99 of 0;", 9, 9, 99, 0, NONE, 0);
        person("an orphan, all of 0", "orphan 0 0 0 of 0;", 0, 0, 0, 0, NONE, 1);
        person("an orphan, as much as may be", "orphan 9 9 99;", 9, 9, 99, NONE, NONE, 1);
        for (String word : new String[] {"person", "orphan"}) {
            outsideAtEnd("a PERSON's JAW of 10", word + " ", "10", 2);
            outsideAtEnd("a PERSON's BROW of 10", word + " 9 ", "10", 2);
            outsideAtEnd("AGE of 100", word + " 9 9 ", "100", 2);
        }
    }

    private static void rain() {
        StringBuilder line = new StringBuilder("rain");
        for (int many = 1; many <= 8; many++) {
            line.append(' ').append(many == 8 ? 0 : 10 - many);
            GutterSeats x = inside("RAIN: 1 to 8 numbers", line + ";");
            for (int year = 0; year <= 2 * many; year++) {
                int due = year % many == 7 ? 0 : 9 - year % many;
                Check.same("RAIN of a YEAR by YEAR MOD " + many, x.count(3), due);
                x.years(1);
            }
        }
        outsideAtEnd("the 9th RAIN", line + " ", "1", 2);
        outsideAtEnd("the 9th RAIN, not as told besides", line + " ", "10", 2);
        outsideAtEnd("the 9th RAIN, of 5 digits besides", line + " ", "10000", 2);
        outside("no RAIN", "rain;", 1, 4);
        outsideAtEnd("the first RAIN of 10", "rain ", "10", 2);
        outsideAtEnd("the last RAIN of 10", "rain 1 2 3 4 5 6 7 ", "10", 2);
        GutterSeats x = inside("always 3 without", GARGOYLE);
        for (int year = 0; year < 20; year++) {
            Check.same("always 3 without", x.count(3), 3);
            x.years(1);
        }
    }

    private static void certain() {
        Check.same("CERTAIN of 0", inside("CERTAIN: an AGE", "certain 0;").count(4), 0);
        Check.same("CERTAIN of 99", inside("CERTAIN: an AGE", "certain 99;").count(4), 99);
        Check.same("30 without", inside("CERTAIN: 30 without", GARGOYLE).count(4), 30);
        outsideAtEnd("CERTAIN of 100", "certain ", "100", 2);
    }

    private static void families() {
        for (int told = 1; told <= 8; told++) {
            String ahead = GARGOYLE.repeat(told) + "orphan 1 1 1 of ";
            GutterSeats x = inside("the last GARGOYLE that is told ahead", ahead + (told - 1) + ";");
            Check.same("the FAMILY", x.person(0, 3), told - 1);
            outsideAtEnd("a GARGOYLE that isn't told ahead", ahead, String.valueOf(told), 3);
            outside("a GARGOYLE that is told behind", ahead + told + ";" + GARGOYLE, 3, ahead.length());
        }
        outsideAtEnd("no GARGOYLE is told ahead", "person 1 1 1 of ", "0", 3);
        outsideAtEnd("9999 isn't told ahead", GARGOYLE + "person 1 1 1 of ", "9999", 3);
        outsideAtEnd("5 digits are too much", GARGOYLE + "person 1 1 1 of ", "10000", 2);
        outsideAtEnd("5 digits are too much, whatever they tell", GARGOYLE + "person 1 1 1 of ", "00000", 2);
        Check.same("0000 is 0", inside("4 digits", GARGOYLE + "person 1 1 1 of 0000;").person(0, 3), 0);
    }

    /** Blanks are 32 and 10; all other bytes but a .. z, digits and the signs are no TOKEN. */
    private static void bytes() {
        String known = " \nabcdefghijklmnopqrstuvwxyz0123456789;()+-*/<=";
        for (char sign = 0; sign < 256; sign++) {
            if (known.indexOf(sign) < 0) {
                outside("a byte that is no TOKEN: " + (int) sign, "certain 9" + sign + ";", 1, 9);
                outside("a byte that is no TOKEN, first: " + (int) sign, sign + "certain 9;", 1, 0);
                outside("a byte that is no TOKEN, for a PART: " + (int) sign, "wears 1+" + sign + ";", 1, 8);
                outside("a byte that is no TOKEN, within a word: " + (int) sign, "cer" + sign + "tain 9;", 1, 0);
            }
        }
        for (char blank : new char[] {' ', '\n'}) {
            GutterSeats x = inside("blanks between TOKENS", (" certain 9 ; ").replace(' ', blank));
            Check.same("blanks count for nothing", x.count(4), 9);
            outside("a blank within a word", "cer" + blank + "tain 9;", 1, 0);
            outside("a blank within a number", "certain 1" + blank + "2;", 1, 10);
        }
        Check.same("no blanks", inside("no blanks between TOKENS", "certain9;rain1;").count(4), 9);
        Check.same("only blanks", inside("only blanks", " \n \n ").count(0), 0);
        Check.same("nothing", inside("nothing at all", "").count(0), 0);
    }

    private static void words() {
        String[] words = {"gargoyle", "person", "orphan", "rain", "certain", "wears", "sits"};
        for (String word : words) {
            outside("the longest row: one letter more", word + "s 1 1 1;", 1, 0);
            outside("the longest row: one letter ahead", "a" + word + " 1 1 1;", 1, 0);
            outside("the longest row: one letter less", word.substring(0, word.length() - 1) + " 1 1 1;", 1, 0);
            outside("a capital letter", word.toUpperCase() + " 1 1 1;", 1, 0);
            for (int i = 0; i < word.length(); i++) {
                String other = word.substring(0, i) + "z" + word.substring(i + 1);
                outside("another letter", other + " 1 1 1;", 1, 0);
            }
        }
        for (String word : new String[] {"of", "or", "and", "not", "stone", "beside", "year", "unlike", "age",
            "family", "a", "z"}) {
            outside("no LINE begins with " + word, word + " 1;", 1, 0);
        }
        outside("'of' with a letter more", GARGOYLE + "person 1 1 1 off 0;", 1, 28);
        outside("'of' with a letter less", GARGOYLE + "person 1 1 1 o 0;", 1, 28);
        outside("'or' and a word in one row", "wears 1 orstone;", 1, 8);
        inside("'or' and a number", "wears 1or1and1;");
    }

    private static void wordsWithAnotherLetter() {
        for (String word : new String[] {"or", "and", "of", "not", "rain", "stone", "beside", "year", "unlike", "age",
            "family"}) {
            for (int i = 0; i < word.length(); i++) {
                String other = word.substring(0, i) + "z" + word.substring(i + 1);
                outside("no VALUE with another letter", "wears " + other + ";", 3, 6);
                outside("no VALUE with another letter", "sits " + other + ";", 3, 5);
                outside("no word between PARTS with another letter", "wears 1 " + other + " 1;", 1, 8);
                outside("no 'of' with another letter", GARGOYLE + "person 1 1 1 " + other + " 0;", 1, 28);
            }
        }
    }

    private static void numbers() {
        Check.same("4 digits, as many as there may be", inside("0009", "certain 0009;").count(4), 9);
        outsideAtEnd("a NUMBER of 5 digits", "certain ", "00009", 2);
        outsideAtEnd("a NUMBER of many digits", "certain ", "9".repeat(300), 2);
        outsideAtEnd("a NUMBER that would wrap to 9", "certain ", "4294967305", 2);
        inside("9999 in an EXPR", "wears 9999;sits 9999;");
        for (String rule : new String[] {"wears ", "sits ", "wears 1*", "sits (", "wears not "}) {
            outsideAtEnd("10000 in an EXPR", rule, "10000", 2);
            outsideAtEnd("00000 in an EXPR", rule, "00000", 2);
        }
        inside("above 99 in an EXPR", "sits 100*1000;");
    }

    /** Each line, cut off behind each of its tokens: the fault is at the text's length; with ';'
        there, at that. */
    private static void missingTokens() {
        String[] lines = {"gargoyle 1 2 3", "person 1 2 3", "orphan 1 2 3", "rain 1", "certain 1", "wears 1", "sits 1"};
        for (String line : lines) {
            for (int end = line.indexOf(' '); end > 0; end = line.indexOf(' ', end + 1)) {
                String cutOff = line.substring(0, end);
                outside("it ends too soon", cutOff, 1, end);
                outside("it ends too soon, behind blanks", cutOff + " \n ", 1, end + 3);
                outside("a NUMBER is missing", cutOff + ";", 1, end);
                outside("a parenthesis where a NUMBER must stand", cutOff + " )", 1, end + 1);
                outside("a sign where a NUMBER must stand", cutOff + " -1;", 1, end + 1);
            }
            outside("';' is missing", line, 1, line.length());
            outside("';' is missing, behind blanks", line + "  ", 1, line.length() + 2);
            outside("';' is missing ahead of a LINE", line + " " + GARGOYLE, 1, line.length() + 1);
            inside("all is there", line + ";");
        }
        for (String ahead : new String[] {"gargoyle ", "gargoyle 1 ", "gargoyle 1 2 ", "person ", "person 1 ",
            "person 1 2 ", "orphan ", "rain ", "certain "}) {
            outsideAtEnd("a word where a NUMBER must stand", ahead, "stone", 1);
        }
        outside("'of' at the end", GARGOYLE + "person 1 2 3 of", 1, 30);
        outside("'of' and no GARGOYLE", GARGOYLE + "person 1 2 3 of;", 1, 30);
        outside("'of' and a word", GARGOYLE + "person 1 2 3 of gargoyle;", 1, 31);
    }

    private static void tokensTooMany() {
        outsideAtEnd("a NUMBER more", "gargoyle 1 2 3 ", "4", 1);
        outsideAtEnd("'of' behind a GARGOYLE", GARGOYLE + "gargoyle 1 2 3 ", "of", 1);
        outsideAtEnd("a NUMBER more", "person 1 2 3 ", "4", 1);
        outsideAtEnd("a NUMBER behind the FAMILY", GARGOYLE + "person 1 2 3 of 0 ", "0", 1);
        outsideAtEnd("a second 'of'", GARGOYLE + "person 1 2 3 of 0 ", "of", 1);
        outsideAtEnd("a NUMBER more", "certain 1 ", "1", 1);
        outsideAtEnd("a word behind RAIN", "rain 1 2 ", "rain", 1);
        outsideAtEnd("a second ';'", "rain 1 2;", ";", 1);
        outsideAtEnd("';' alone", "", ";", 1);
        outsideAtEnd("a NUMBER alone", "", "1", 1);
        outsideAtEnd("a parenthesis alone", "", "(", 1);
    }

    private static void linesOfExpr() {
        for (String sign : new String[] {"+", "-", "*", "/", "<", "=", ")", ";"}) {
            outsideAtEnd("no PART at first", "wears ", sign, 1);
            outsideAtEnd("no PART behind 'not'", "wears not ", sign, 1);
            outsideAtEnd("no PART behind (", "wears (", sign, 1);
            for (String ahead : new String[] {"1+", "1-", "1*", "1/", "1<", "1=", "1 and ", "1 or "}) {
                outsideAtEnd("no PART behind " + ahead, "sits " + ahead, sign, 1);
            }
        }
        for (String token : new String[] {"1", "stone", "not", "x", "(", ")", "of", "rain"}) {
            outsideAtEnd("neither a sign nor ';' behind an EXPR", "wears 1 ", token, 1);
        }
        outsideAtEnd("a second test", "wears 1<2", "<", 1);
        outsideAtEnd("a second test", "wears 1=2", "=", 1);
        outsideAtEnd("a second test", "wears 1<2", "=", 1);
        outsideAtEnd("a second test behind sums", "wears 1+1<2+2", "<", 1);
        inside("a second test in parentheses", "wears (1<2)<3;");
        inside("a second test behind 'and'", "wears 1<2 and 2<3 or 3=4;");
        outside("it ends within parentheses", "wears (1", 1, 8);
        outsideAtEnd("';' within parentheses", "wears (1", ";", 1);
        outsideAtEnd("a parenthesis too many", "wears (1)", ")", 1);
    }

    private static void levels() {
        for (int parentheses = 0; parentheses <= 5; parentheses++) {
            String open = "(".repeat(parentheses);
            String close = ")".repeat(parentheses) + ";";
            inside("an EXPR within " + parentheses + " others", "wears " + open + "1" + close);
            inside("a VALUE within " + parentheses + " others", "sits " + open + "age" + close);
            inside("'not' within " + parentheses + " others", "sits " + open + "not 1" + close);
            inside("again", "sits " + open + "1" + ")".repeat(parentheses) + "*" + open + "1" + close);
        }
        String ahead = "wears ((((((";
        for (String token : new String[] {"1", "9999", "10000", "stone", "age", "x", "not", "or", "wears", "("}) {
            outsideAtEnd("an EXPR within 6 others", ahead, token, 2);
        }
        for (String token : new String[] {")", "+", "-", "*", "/", "<", "=", ";", "#"}) {
            outsideAtEnd("what begins no EXPR, within 6 others", ahead, token, 1);
        }
        outside("it ends too soon within 6 others", ahead, 1, 12);
        outsideAtEnd("an EXPR within 6 others, behind others", "sits (1)+(((1 and not(not 1<2 and (1*(", "1", 2);
    }

    private static void nots() {
        for (int many = 0; many <= 6; many++) {
            inside("'not' side by side", "wears " + "not ".repeat(many) + "1;");
            inside("'not' side by side, within others", "wears 1 and (" + "not ".repeat(many) + "stone);");
        }
        outsideAtEnd("the seventh 'not' side by side", "wears " + "not ".repeat(6), "not", 2);
        outsideAtEnd("the seventh 'not' side by side", "sits 1 or " + "not ".repeat(6), "not", 2);
        outsideAtEnd("the seventh 'not' side by side", "sits (" + "not ".repeat(6), "not", 2);
        outside("the eighth one behind it", "wears " + "not ".repeat(8) + "1;", 2, 30);
        inside("not side by side: a parenthesis", "wears " + "not ".repeat(6) + "(not 1);");
        inside("not side by side: 'and'", "wears " + "not ".repeat(6) + "1 and not 1;");
        outsideAtEnd("behind six of them no VALUE", "wears " + "not ".repeat(6), "age", 3);
        outsideAtEnd("behind six of them a sign", "wears " + "not ".repeat(6), "+", 1);
    }

    private static void wordsOfParts() {
        String[] both = {"stone", "year"};
        String[] ofWears = {"rain", "beside"};
        String[] ofSits = {"unlike", "age", "family"};
        String[] none = {"gargoyle", "person", "orphan", "of", "certain", "wears", "sits", "or", "and", "x", "stones",
            "ston", "years", "rains", "ages", "z"};
        for (String ahead : new String[] {"", "1+", "1*", "1<", "(", "not ", "1 and "}) {
            String close = ahead.equals("(") ? ");" : ";";
            for (String word : both) {
                inside("a VALUE of WEARS", "wears " + ahead + word + close);
                inside("a VALUE of SITS", "sits " + ahead + word + close);
            }
            for (String word : ofWears) {
                inside("a VALUE of WEARS", "wears " + ahead + word + close);
                outsideAtEnd("no VALUE of SITS", "sits " + ahead, word, 3);
            }
            for (String word : ofSits) {
                outsideAtEnd("no VALUE of WEARS", "wears " + ahead, word, 3);
                inside("a VALUE of SITS", "sits " + ahead + word + close);
            }
            for (String word : none) {
                outsideAtEnd("no VALUE at all", "wears " + ahead, word, 3);
                outsideAtEnd("no VALUE at all", "sits " + ahead, word, 3);
            }
        }
        for (String ahead : new String[] {"1+", "1-", "1*", "1/", "1<", "1="}) {
            outsideAtEnd("'not' where a PART must stand", "wears " + ahead, "not", 3);
            outsideAtEnd("'not' where a PART must stand", "sits " + ahead, "not", 3);
        }
    }

    private static void seconds() {
        inside("one of each", "rain 1;certain 1;wears 1;sits 1;");
        String[] lines = {"rain 1;", "certain 30;", "wears 1;", "sits 1;"};
        String[] words = {"rain", "certain", "wears", "sits"};
        for (int i = 0; i < lines.length; i++) {
            outsideAtEnd("a second one", lines[i], words[i], 5);
            outsideAtEnd("a second one, behind others", lines[i] + GARGOYLE + PERSON, words[i], 5);
            for (int other = 0; other < lines.length; other++) {
                if (other != i) {
                    inside("the first of another", lines[i] + lines[other]);
                }
            }
        }
    }

    private static void leastOfOneToken() {
        outsideAtEnd("1 and 2: a NUMBER of 5 digits that can't stand there", "wears 1 ", "10000", 1);
        outsideAtEnd("1 and 2: a NUMBER of 5 digits for a word", "", "10000", 1);
        outsideAtEnd("1 and 2: a NUMBER of 5 digits behind all", "certain 1 ", "10000", 1);
        outsideAtEnd("1 and 3: a word behind a PART", "wears 1 ", "x", 1);
        outsideAtEnd("1 and 5: a second 'rain' within a LINE", "rain 1 ", "rain", 1);
        outsideAtEnd("2 and 3: a word within 6 others", "wears ((((((", "x", 2);
        outsideAtEnd("2 and 3: 5 digits for a GARGOYLE", "person 1 1 1 of ", "10000", 2);
    }

    private static void firstAlongTheText() {
        outside("2 ahead of 1", "certain 100;#", 2, 8);
        outside("3 ahead of 1", "wears x #", 3, 6);
        outside("3 ahead of 2", "person 1 1 1 of 0;certain 100;", 3, 16);
        outside("5 ahead of 1", "rain 1;rain #", 5, 7);
        outside("5 ahead of 2", "rain 1;rain 10", 5, 7);
        outside("2 ahead of 2", "gargoyle 10 10 100;", 2, 9);
        outside("a BROW ahead of STONE", "gargoyle 9 10 100;", 2, 11);
        outside("1 ahead of 5", "rain 1;#rain 1;", 1, 7);
        outside("a fault in the last LINE", "rain 1;certain 1;wears 1;sits (1;", 1, 32);
    }

    /** At most 700 bytes; those behind the first n aren't looked at. */
    private static void length() {
        String text = GARGOYLE.repeat(8) + "wears 1" + "+1".repeat(285);
        Check.same("700 bytes of text, 3 of them still to come", text.length(), 697);
        GutterSeats x = inside("700 bytes", text + "  ;");
        Check.same("the last byte counts", x.count(0), 8);
        Check.same("all of the EXPR", x.then(0, 1, 0), 0);
        outside("700 bytes, which end too soon", text + "   ", 1, 700);
        outside("700 bytes, the last one no TOKEN", text + "; #", 1, 699);
        outside("700 bytes, at their end a part of a word", GARGOYLE + " ".repeat(682) + "gar", 1, 697);
        outside("700 bytes, at their end a word", GARGOYLE + " ".repeat(677) + "gargoyle", 1, 700);
        outside("700 bytes, at their end a NUMBER", " ".repeat(688) + "certain 1234", 2, 696);
        GutterSeats part = Picture.aged();
        Check.put(part, "certain 12;#");
        Check.same("what is behind the first n isn't looked at", part.tower(11), 0);
        Check.same("certain", part.count(4), 12);
        Check.put(part, "certain 12;");
        Check.same("a NUMBER is cut off by n", part.tower(9), 1);
        Check.same("at the text's length", part.fault(), 9);
        Check.put(part, "certain 12;");
        Check.same("a word is cut off by n", part.tower(6), 1);
        Check.same("at its first byte", part.fault(), 0);
        Check.put(part, "certain 123;");
        Check.same("a NUMBER of 2 digits by n", part.tower(10), 1);
        Check.same("at the text's length", part.fault(), 10);
    }
}

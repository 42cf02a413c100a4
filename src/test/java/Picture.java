/** What can be seen of an object, as one text, so that two objects can be held against one another. */
final class Picture {
    static final int[] NO_STATUS = {0, 0, 0};

    private static final int STATUS = 13;
    private static final String TOWER = "gargoyle 5 4 20;gargoyle 0 9 50;gargoyle 9 0 0;rain 2 0 3;certain 40;"
        + "person 4 4 38 of 0;orphan 1 9 12 of 1;person 9 9 70;wears rain+(stone<10);sits unlike<4 or year=9;";

    private Picture() { }

    /** An object with 40 bytes on the tape besides: all that a call could spoil. */
    static GutterSeats lived() {
        GutterSeats x = aged();
        Check.put(x, "rain 5;certain 7;orphan 1 2 3;");
        return x;
    }

    /** An object with acts, an image and acts behind it, with what is seen, with STATUS 1, 2 and 3,
        with a fault's place (9) and with an empty tape. */
    static GutterSeats aged() {
        GutterSeats x = Check.told(TOWER);
        x.years(1);
        x.call(0);
        x.see(0, 1, 4);
        x.see(0, 1, 10);
        x.image();
        x.years(2);
        x.cut(0, 3, 3);
        x.leave(2, 1);
        x.see(2, 20, 9);
        x.see(0, 21, 1);
        x.see(0, -1, 1);
        x.years(0);
        x.years(21);
        Check.tell(x, "gargoyle #");
        return x;
    }

    /** By calls that change nothing; so much is taken away from each STATUS. What follows from
        others isn't asked, since an object is made for 512 calls. */
    private static String now(GutterSeats x, int[] less) {
        StringBuilder all = new StringBuilder();
        int gargoyles = x.count(0);
        int people = x.count(1);
        put(all, "gargoyles", gargoyles);
        put(all, "people", people);
        for (int what : new int[] {2, 3, 4, 10, 11}) {
            put(all, "count " + what, x.count(what));
        }
        for (int i = 0; i < less.length; i++) {
            put(all, "status " + i, x.count(STATUS + i) - less[i]);
        }
        for (int gargoyle = 0; gargoyle < gargoyles; gargoyle++) {
            for (int what = 0; what < 4; what++) {
                put(all, "gargoyle " + gargoyle + " " + what, x.gargoyle(gargoyle, what));
            }
        }
        for (int person = 0; person < people; person++) {
            for (int what = 0; what < 5; what++) {
                put(all, "person " + person + " " + what, x.person(person, what));
            }
        }
        put(all, "stone of all behind 9 years", x.later(9, 2));
        put(all, "ages by what is seen", x.old(0));
        return all.toString();
    }

    private static void put(StringBuilder all, String what, int answer) {
        all.append(what).append(": ").append(answer).append('\n');
    }

    private static void putWithActs(StringBuilder all, GutterSeats x, int[] less) {
        all.append(now(x, less));
        for (int left = x.undo(); left != GutterSeats.NONE; left = x.undo()) {
            put(all, "undone, left", left);
            all.append(now(x, less));
        }
    }

    /** What is now, what each undo and the image give; the object is used up by it. */
    static String memory(GutterSeats x, int[] less) {
        StringBuilder all = new StringBuilder();
        putWithActs(all, x, less);
        boolean isRestored = x.restore();
        put(all, "restored", isRestored ? 1 : 0);
        if (isRestored) {
            putWithActs(all, x, NO_STATUS);
        }
        return all.toString();
    }

    /** The memory, and the fault's place and the tape with what it tells. */
    static String whole(GutterSeats x, int[] less) {
        StringBuilder all = new StringBuilder(memory(x, less));
        put(all, "fault", x.fault());
        put(all, "tape", x.count(12));
        put(all, "tower", x.tower(x.count(12)));
        put(all, "fault", x.fault());
        return all.append(now(x, NO_STATUS)).toString();
    }

    /** Both must be one; else the first line that isn't is told. */
    static void same(String what, String got, String due) {
        String[] gotLines = got.split("\n");
        String[] dueLines = due.split("\n");
        int i = 0;
        while (i < gotLines.length && i < dueLines.length && gotLines[i].equals(dueLines[i])) {
            i++;
        }
        String there = (i < gotLines.length ? gotLines[i] : "nothing") + " / due: "
            + (i < dueLines.length ? dueLines[i] : "nothing");
        Check.is(what + ", all else stays: " + there, got.equals(due));
    }
}

import java.util.Arrays;

/** Promises 16 to 21 at their edges: then, fate, when, place, run, stitches. */
public final class EdgesOfWhatComesTest extends Edge {
    /** The first is under the cosy in hour 1, the second taken in hour 1, the third in hour 4. */
    private static final String ONE_BY_ONE = "common;cosy 0 23 1;hunted 23;hunted 1;hunted 4;sheriff 0;";
    /** Under a cosy of wool, and let go as its wear comes to 40, with a sheriff that waits. */
    private static final String UNDER_WOOL = "common;cosy 2 0 2;wear 0 1;hunted 0;sheriff 0;";

    public static void main(String[] args) {
        new EdgesOfWhatComesTest().finish();
    }

    @Override
    void look() {
        then();
        fate();
        when();
        place();
        placeOfLikeOnes();
        run();
        runOfOneToFourHours();
        runFirstRow();
        runRefused();
        runWhere();
        runAllOthersAsTold();
        stitches();
    }

    private void then() {
        promise(16);
        rangeHere("one of THE HUNTED", 0, 2, BUSY, (x, p) -> x.then(p, 1, 0));
        rangeHere("the last of six", 0, 5, ALL_FULL, (x, p) -> x.then(p, 1, 0));
        rangeHere("m", 0, 40, BUSY, (x, m) -> x.then(0, m, 0));
        rangeHere("what", 0, 2, BUSY, (x, what) -> x.then(0, 1, what));
        badHere("there is nobody in an empty common", EMPTY, x -> x.then(0, 0, 0));
        badHere("no number is as told: one call refused", BUSY, x -> x.then(3, 41, 3));
        int[][] now = {{8, 0, 0}, {22, NONE, 1}, {4, NONE, 0}};
        for (int i = 0; i < 9; i++) {
            int p = i / 3, what = i % 3;
            looks("behind 0 HOURS as it is: " + p + " " + what, BUSY, x -> x.then(p, 0, what), now[p][what]);
        }
        looks("behind 1 HOUR", BUSY, x -> x.then(2, 1, 0), 3);
        looks("UNDER none yet", told("common;cosy 0 8 1;hunted 7;"), x -> x.then(0, 1, 1), NONE);
        looks("UNDER COSY 0 then", told("common;cosy 0 8 1;hunted 7;"), x -> x.then(0, 2, 1), 0);
        looks("UNDER none again, let go", told("common;cosy 0 8 1;hunted 8;"), x -> x.then(0, 10, 1), NONE);
        looks("one TAKEN then is UNDER none", told("common;hunted 1;sheriff 0;"), x -> x.then(0, 1, 1), NONE);
        looks("TAKEN behind 40 HOURS, not behind 39", told(UNDER_WOOL), x -> x.then(0, 40, 2), 1);
        looks("not TAKEN behind 39 HOURS", told(UNDER_WOOL), x -> x.then(0, 39, 2), 0);
        looks("HOURS go beyond 999", LAST_HOUR, x -> x.then(1, 1, 0), 4);
    }

    private void fate() {
        promise(17);
        range("m", 0, 40, BUSY, (x, m) -> x.fate(m, 0));
        range("what", 0, 2, BUSY, (x, what) -> x.fate(1, what));
        bad("neither number is as told: one call refused", BUSY, x -> x.fate(41, 3));
        for (int i = 0; i < 3; i++) {
            int what = i;
            looks("in an empty common 0: " + what, EMPTY, x -> x.fate(40, what), 0);
        }
        looks("how many are TAKEN now: behind 0 HOURS", BUSY, x -> x.fate(0, 0), 1);
        looks("who is TAKEN now: behind 0 HOURS", BUSY, x -> x.fate(0, 1), 2);
        looks("how many are UNDER now: behind 0 HOURS", BUSY, x -> x.fate(0, 2), 1);
        int[] many = {0, 1, 1, 1, 2}, who = {0, 2, 2, 2, 6}, under = {0, 1, 1, 1, 1};
        for (int i = 0; i < many.length; i++) {
            int m = i;
            looks("TAKEN behind " + m + " HOURS", told(ONE_BY_ONE), x -> x.fate(m, 0), many[m]);
            looks("who is TAKEN behind " + m + " HOURS", told(ONE_BY_ONE), x -> x.fate(m, 1), who[m]);
            looks("UNDER behind " + m + " HOURS", told(ONE_BY_ONE), x -> x.fate(m, 2), under[m]);
        }
        looks("all six may be TAKEN: six bits", told("common;hunted 1;hunted 1;hunted 1;hunted 1;hunted 1;hunted 1;sheriff 0;"), x -> x.fate(1, 1), 63);
        looks("one TAKEN in the 40th HOUR", told(UNDER_WOOL), x -> x.fate(40, 0), 1);
        looks("HOURS go beyond 999", LAST_HOUR.then(x -> x.sheriff(4)), x -> x.fate(1, 0), 2);
    }

    private void when() {
        promise(18);
        range("one of THE HUNTED", 0, 2, BUSY, (x, p) -> x.when(p));
        range("the last of six", 0, 5, ALL_FULL, (x, p) -> x.when(p));
        bad("there is nobody in an empty common", EMPTY, x -> x.when(0));
        looks("TAKEN now: none", BUSY, x -> x.when(1), NONE);
        looks("nobody takes it: none", told("common;hunted 0;"), x -> x.when(0), NONE);
        looks("TAKEN in the 1st HOUR", told("common;hunted 1;sheriff 0;"), x -> x.when(0), 1);
        looks("TAKEN in the 2nd HOUR", told("common;hunted 2;sheriff 0;"), x -> x.when(0), 2);
        looks("TAKEN in the 40th HOUR", told(UNDER_WOOL), x -> x.when(0), 40);
        looks("TAKEN in the 41st HOUR: none", told("common;cosy 2 0 2;hunted 0;sheriff 0;"), x -> x.when(0), NONE);
        looks("first: not in a later one, when it is TAKEN yet", told("common;hunted 0;hunted 23;sheriff 0;"), x -> x.when(0), 1);
        looks("HOURS go beyond 999", LAST_HOUR.then(x -> x.sheriff(4)), x -> x.when(1), 1);
    }

    private void place() {
        promise(19);
        range("a COSY", 0, 1, BUSY, (x, k) -> x.place(k, 1));
        range("the last of five COSIES", 0, 4, ALL_FULL, (x, k) -> x.place(k, 1));
        range("m", 0, 20, BUSY, (x, m) -> x.place(0, m));
        bad("there is no COSY in an empty common", EMPTY, x -> x.place(0, 0));
        bad("neither number is as told: one call refused", BUSY, x -> x.place(2, 21));
        looks("fewest TAKEN: the last CELL", told("common;cosy 0 9 1;hunted 23;hunted 23;sheriff 22;sheriff 17;"), x -> x.place(0, 1), 23);
        looks("fewest TAKEN: the first CELL", told("common;cosy 0 9 1;hunted 0;sheriff 1;sheriff 6;"), x -> x.place(0, 1), 0);
        looks("those UNDER it go with it: no CELL is worse", told("common;cosy 0 10 1;hunted 10;sheriff 16;").then(x -> x.hour(1)), x -> x.place(0, 1), 0);
        Ahead worn = told("common;cosy 0 10 1;wear 0 8;hunted 10;sheriff 0;").then(x -> x.hour(1));
        looks("those UNDER it go with it, and are let go there", worn, x -> x.place(0, 2), 2);
        looks("behind one HOUR more, further off", worn, x -> x.place(0, 3), 3);
        looks("behind 8 HOURS just the last CELL is far enough off", worn, x -> x.place(0, 8), 23);
        looks("behind 9 HOURS none is", worn, x -> x.place(0, 9), 0);
        looks("behind 20 HOURS", told("common;cosy 2 10 1;hunted 10;sheriff 0;").then(x -> x.hour(1)), x -> x.place(0, 20), 2);
        looks("HOURS go beyond 999", LAST_HOUR.then(x -> x.sheriff(4)), x -> x.place(0, 1), 5);
        answers("it stays where it is", BUSY.then(x -> x.place(0, 20)), x -> x.of(0, 1), 8);
    }

    private void placeOfLikeOnes() {
        looks("behind 0 HOURS all are alike: the least", told("common;cosy 0 23 1;hunted 23;sheriff 23;"), x -> x.place(0, 0), 0);
        looks("nobody is there, all are alike: the least", told("common;cosy 0 23 1;"), x -> x.place(0, 20), 0);
        looks("none is TAKEN anywhere: so that most are UNDER", told("common;cosy 0 0 1;hunted 20;"), x -> x.place(0, 1), 20);
        looks("as many are UNDER in three CELLS: the least of them", told("common;cosy 1 0 1;hunted 14;hunted 20;hunted 15;"), x -> x.place(0, 1), 14);
        looks("two UNDER are more than one in a lesser CELL", told("common;cosy 1 0 1;hunted 14;hunted 20;hunted 20;"), x -> x.place(0, 1), 20);
        looks("fewest TAKEN goes ahead of most UNDER", told("common;cosy 1 0 1;cosy 0 23 1;hunted 5;hunted 5;hunted 12;sheriff 12;"), x -> x.place(0, 1), 12);
    }

    private void run() {
        promise(20);
        rangeHere("one of THE HUNTED", 0, 2, told("common;cosy 0 8 1;hunted 8;hunted 8;hunted 8;"), (x, p) -> x.run(p, NONE));
        rangeHere("the last of six", 0, 5, told(LONG_TEXT), (x, p) -> x.run(p, NONE));
        leastBy("i", NONE, BAD_HERE, told("common;cosy 0 8 1;hunted 8;"), (x, i) -> x.run(0, i));
        badHere("there is nobody in an empty common", EMPTY, x -> x.run(0, NONE));
        badHere("neither number is as told: one call refused", BUSY, x -> x.run(3, -2));
        Ahead three = told("common;cosy 0 8 1;hunted 1;");
        looks("i = NONE: how many HOURS", three, x -> x.run(0, NONE), 3);
        looks("the HOUR 0 is the first", three, x -> x.run(0, 0), 0);
        looks("the HOUR 1 is the second", three, x -> x.run(0, 1), 1);
        looks("the HOUR 2 is the last of three", three, x -> x.run(0, 2), 4);
        looks("the HOUR 3 of three: not so many", three, x -> x.run(0, 3), NOT_SO_MANY);
        looks("the HOUR 4: not so many", three, x -> x.run(0, 4), NOT_SO_MANY);
        looks("as great as can be: not so many", three, x -> x.run(0, Integer.MAX_VALUE), NOT_SO_MANY);
        Ahead none = told("common;hunted 1;");
        looks("there is none: i = NONE", none, x -> x.run(0, NONE), NONE);
        looks("there is none: i = 0", none, x -> x.run(0, 0), NONE);
        looks("there is none: i = 4", none, x -> x.run(0, 4), NONE);
        looks("there is none: i as great as can be", none, x -> x.run(0, Integer.MAX_VALUE), NONE);
    }

    /** Just this row of choices of the first of THE HUNTED, and not so many behind it. */
    private void row(String sentence, String common, long... choices) {
        long[] due = new long[7];
        Arrays.fill(due, NOT_SO_MANY);
        due[0] = choices.length;
        System.arraycopy(choices, 0, due, 1, choices.length);
        answersAll(sentence, told(common), x -> {
            long[] got = new long[due.length];
            for (int i = 0; i < got.length; i++) {
                got[i] = x.run(0, i - 1);
            }
            return got;
        }, due);
    }

    private void noWay(String sentence, String common) {
        looks(sentence, told(common), x -> x.run(0, NONE), NONE);
    }

    private void runOfOneToFourHours() {
        row("1 HOUR is the fewest", "common;cosy 0 8 1;hunted 8;", 4);
        row("2 HOURS", "common;cosy 0 8 1;hunted 7;", 0, 4);
        row("3 HOURS", "common;cosy 0 8 1;hunted 6;", 0, 0, 4);
        row("4 HOURS are the most", "common;cosy 0 9 1;hunted 6;", 0, 0, 0, 4);
        noWay("5 HOURS: none", "common;cosy 0 10 1;hunted 6;");
        noWay("a COSY that HOLDS none: none", "common;cosy 3 8 4;hunted 8;");
        looks("one of lesser number is UNDER it first: none", told("common;cosy 0 8 1;hunted 8;hunted 8;"), x -> x.run(1, NONE), NONE);
        row("one of greater number is not ahead of it", "common;cosy 0 8 1;hunted 8;hunted 8;", 4);
        noWay("UNDER it is not yet behind an HOUR that lets it go", "common;cosy 0 8 1;wear 0 9;hunted 8;");
        row("UNDER it behind an HOUR that lets another go", "common;cosy 0 8 2;wear 0 8;hunted 8;hunted 8;", 4);
    }

    private void runFirstRow() {
        row("0 is the next column", "common;cosy 0 8 1;hunted 7;", 0, 4);
        row("1 is the next row", "common;cosy 0 8 1;hunted 2;", 1, 4);
        row("2 is the column ahead", "common;cosy 0 8 1;hunted 9;", 2, 4);
        row("3 is the row ahead", "common;cosy 0 8 1;hunted 14;", 3, 4);
        row("of like rows the first: 0 1 ahead of 1 0", "common;cosy 0 8 1;hunted 1;", 0, 1, 4);
        row("of like rows the first: 1 2 ahead of 2 1", "common;cosy 0 8 1;hunted 3;", 1, 2, 4);
        row("of like rows the first: 2 3 ahead of 3 2", "common;cosy 0 8 1;hunted 15;", 2, 3, 4);
        row("of like rows the first: 0 3 ahead of 3 0", "common;cosy 0 8 1;hunted 13;", 0, 3, 4);
        row("of two COSIES as far the one of the lesser choice", "common;cosy 0 7 1;cosy 0 9 1;hunted 8;", 0, 4);
        row("fewest HOURS go ahead of the first row", "common;cosy 0 10 1;cosy 0 2 1;hunted 8;", 3, 4);
        row("4 stays where no COSY is: there the SHERIFF is led by", "common;cosy 0 9 2;hunted 8;sheriff 3;", 4, 0, 4);
        row("4 stays, though as told it would step", "common;cosy 1 2 1;hunted 4;sheriff 9;", 4, 2, 2, 4);
    }

    private void runRefused() {
        no("one that is UNDER a COSY is not free", BUSY, x -> x.run(0, NONE));
        no("one that is TAKEN is not free", BUSY, x -> x.run(1, NONE));
        no("one that is TAKEN is not free, whatever i is", BUSY, x -> x.run(1, 4));
        no("not free, where there is no way either", told("common;hunted 0;sheriff 0;").then(x -> x.hour(1)), x -> x.run(0, 0));
        badHere("BAD goes ahead of NO: i", BUSY, x -> x.run(0, -2));
        badHere("BAD goes ahead of none: one that is not there", told("common;hunted 0;"), x -> x.run(1, 0));
        answersAll("-5 counts as none of BAD, NO, FULL", told("common;cosy 0 8 1;hunted 8;"), x -> row(x.run(0, 1), x.status(0), x.status(1), x.status(2)),
            NOT_SO_MANY, 0, 0, 0);
    }

    /** Ways that there would be, could one go off the common. */
    private void runWhere() {
        noWay("not off by the next column", "common;cosy 0 19 2;cosy 2 11 2;hunted 23;sheriff 10;");
        noWay("not off by the column ahead", "common;cosy 0 11 2;cosy 0 13 2;hunted 19;sheriff 22;sheriff 13;");
        noWay("not off by the row ahead", "common;cosy 2 1 1;hunted 0;hunted 3;hunted 15;hunted 11;sheriff 8;sheriff 7;");
        row("not off by the next row", "common;cosy 2 15 1;hunted 21;hunted 5;sheriff 9;sheriff 17;", 2, 0, 3, 4);
        noWay("not from the last column on to the first of the next row", "common;cosy 0 12 1;hunted 11;");
        noWay("not from the first column on to the last of the row ahead", "common;cosy 0 11 1;hunted 12;");
        noWay("not from the last column on to the first of the row", "common;cosy 0 6 1;hunted 11;");
        row("not from the last row on to the first", "common;cosy 0 5 1;hunted 23;", 3, 3, 3, 4);
        row("not from the first row on to the last", "common;cosy 0 23 1;hunted 5;", 1, 1, 1, 4);
        // one waits for the sheriff to pass; going off the common would be a lesser choice to do so
        row("to wait in the last column is 4, not 0", "common;cosy 0 10 1;hunted 11;sheriff 4;", 4, 2, 4);
        row("to wait in the last row is 4, not 1", "common;cosy 0 21 1;hunted 20;sheriff 15;", 4, 0, 4);
        row("to wait in the first column is 4, not 2", "common;cosy 0 7 1;hunted 6;sheriff 1;", 4, 0, 4);
        row("to wait in the first row is 4, not 3", "common;cosy 0 3 1;hunted 2;sheriff 9;", 4, 0, 4);
        row("on to the last column", "common;cosy 0 5 1;hunted 4;", 0, 4);
        row("on to the last row", "common;cosy 0 18 1;hunted 12;", 1, 4);
        row("on to the first column", "common;cosy 0 0 1;hunted 1;", 2, 4);
        row("on to the first row", "common;cosy 0 0 1;hunted 6;", 3, 4);
    }

    private void runAllOthersAsTold() {
        Ahead two = told("common;cosy 0 8 1;hunted 7;hunted 9;");
        looks("one of lesser number goes as told, and is UNDER first", two, x -> x.run(1, NONE), NONE);
        looks("one of greater number goes as told, and is not UNDER first", two, x -> x.run(0, NONE), 2);
        looks("one of lesser number that is not there yet is not ahead of it", told("common;cosy 0 8 1;hunted 3;hunted 9;sheriff 4;"), x -> x.run(1, NONE), 2);
        looks("a SHERIFF goes as told", told("common;cosy 0 8 1;hunted 7;sheriff 9;"), x -> x.run(0, NONE), NONE);
        looks("a COSY wears as told, and HOLDS none then", told("common;cosy 5 8 2;wear 0 19;hunted 7;"), x -> x.run(0, NONE), NONE);
        answers("HOURS go beyond 999", LAST_HOUR.then(x -> x.cosy(0, 5, 1)), x -> x.run(1, NONE), 1);
    }

    private void stitches() {
        promise(21);
        range("a COSY", 0, 1, BUSY, (x, k) -> x.stitches(k, 1));
        range("the last of five COSIES", 0, 4, ALL_FULL, (x, k) -> x.stitches(k, 1));
        range("n", 0, 9, BUSY, (x, n) -> x.stitches(0, n));
        bad("there is no COSY in an empty common", EMPTY, x -> x.stitches(0, 0));
        bad("neither number is as told: one call refused", BUSY, x -> x.stitches(2, 10));
        Ahead plain = told("common;cosy 0 8 4;wear 0 40;");
        looks("it HOLDS 0: 0 less", plain, x -> x.stitches(0, 0), 0);
        looks("at least so much that it HOLDS one: 40 to 39", plain, x -> x.stitches(0, 1), 1);
        looks("two: 40 to 29", plain, x -> x.stitches(0, 2), 11);
        looks("four: 40 to 9", plain, x -> x.stitches(0, 4), 31);
        looks("more than its SIZE: none", plain, x -> x.stitches(0, 5), NONE);
        looks("9: none", plain, x -> x.stitches(0, 9), NONE);
        looks("it HOLDS more than n: 0 less", told("common;cosy 0 8 4;wear 0 9;"), x -> x.stitches(0, 3), 0);
        looks("40 less at most: a KNOB of WEAR 40", told("common;cosy 4 8 4;wear 0 40;"), x -> x.stitches(0, 7), 40);
        looks("a KNOB as QUILTED: 31 less", told("common;cosy 4 8 4;wear 0 40;"), x -> x.stitches(0, 5), 31);
        looks("a KNOB HOLDS 7, not 8: none", told("common;cosy 4 8 4;wear 0 40;"), x -> x.stitches(0, 8), NONE);
        looks("GREY: 0 less for 0", told("common;cosy 3 8 4;wear 0 40;"), x -> x.stitches(0, 0), 0);
        looks("GREY: none for 1", told("common;cosy 3 8 4;wear 0 40;"), x -> x.stitches(0, 1), NONE);
        looks("no more less than there is WEAR", told("common;cosy 0 8 4;wear 0 10;"), x -> x.stitches(0, 4), 1);
        looks("WEAR 0 and too few: none", told("common;cosy 0 8 3;"), x -> x.stitches(0, 4), NONE);
    }
}

/** Promises 22 to 29 at their edges: note, forget, is, feel, inside, two, rain, years. */
public final class EdgesOfWhatItIsTest extends Edge {
    private static final int PLAIN = 1, QUILTED = 2, WOOL = 4, GREY = 8, KNOB = 16, OLD = 32, ALL = 63;

    public static void main(String[] args) {
        new EdgesOfWhatItIsTest().finish();
    }

    @Override
    void look() {
        note();
        forget();
        is();
        feel();
        inside();
        insideWho();
        twoRefused();
        twoHowMany();
        twoRest();
        rain();
        rainLowest();
        years();
        yearsDrawn();
    }

    private void note() {
        promise(22);
        range("a COSY", 0, 1, BUSY, (x, k) -> x.note(k, 0, 0));
        range("the last of five COSIES", 0, 4, ALL_FULL.then(x -> x.forget()), (x, k) -> x.note(k, 0, 0));
        range("WEAR", 0, 40, BUSY, (x, w) -> x.note(0, w, 0));
        range("n", 0, 9, BUSY, (x, n) -> x.note(0, 0, n));
        bad("there is no COSY in an empty common", EMPTY, x -> x.note(0, 0, 0));
        bad("no number is as told: one call refused", BUSY, x -> x.note(2, 41, 10));
        answersAll("there are 1 to 6 as they come", x -> x.cosy(0, 0, 1), x -> row(x.note(0, 0, 0), x.note(0, 0, 0), x.note(0, 40, 9), x.note(0, 0, 0),
            x.note(0, 0, 0), x.note(0, 0, 0), x.count(6)), 1, 2, 3, 4, 5, 6, 6);
        full("a 7th may not be", ALL_FULL, x -> x.note(0, 0, 0));
        full("a 7th may not be of the last COSY either", ALL_FULL, x -> x.note(4, 40, 9));
        bad("a 7th of no COSY is BAD first", ALL_FULL, x -> x.note(5, 0, 0));
        bad("a 7th of no WEAR is BAD first", ALL_FULL, x -> x.note(0, 41, 0));
        bad("a 7th of no n is BAD first", ALL_FULL, x -> x.note(0, 0, 10));
        answers("there are 6 behind a 7th refused", ALL_FULL.then(x -> x.note(0, 0, 0)), x -> x.count(6), 6);
        answers("the COSY's own WEAR stays", BUSY.then(x -> x.note(0, 40, 1)), x -> x.of(0, 3), 0);
        answers("what may be undone stays", BUSY.then(x -> x.note(0, 40, 1)), x -> x.count(7), 3);
    }

    private void forget() {
        promise(23);
        looks("there were none", EMPTY, CosyAsylum::forget, 0);
        answers("there were 2", BUSY, CosyAsylum::forget, 2);
        answers("there were 6", ALL_FULL, CosyAsylum::forget, 6);
        looks("called again there were none", BUSY.then(x -> x.forget()), CosyAsylum::forget, 0);
        looks("there are none behind it", ALL_FULL.then(x -> x.forget()), x -> x.count(6), 0);
        answers("they begin anew at 1", ALL_FULL.then(x -> x.forget()), x -> x.note(0, 0, 0), 1);
        looks("all KINDS may be again", BUSY.then(x -> x.forget()), x -> x.is(0), ALL);
        answers("IMAGES keep theirs", BUSY.then(x -> x.forget()).then(x -> x.from(0)), x -> x.count(6), 2);
        answers("what may be undone stays", BUSY.then(x -> x.forget()), x -> x.count(7), 3);
    }

    private static Ahead noted(int size, int... notes) {
        return x -> {
            x.cosy(3, 0, size);
            x.cosy(0, 0, 1);
            for (int i = 0; i < notes.length; i += 2) {
                x.note(0, notes[i], notes[i + 1]);
            }
        };
    }

    private void is() {
        promise(24);
        range("a COSY", 0, 1, BUSY, (x, k) -> x.is(k));
        range("the last of five COSIES", 0, 4, ALL_FULL, (x, k) -> x.is(k));
        bad("there is no COSY in an empty common", EMPTY, x -> x.is(0));
        looks("no NOTES: all KINDS", noted(1), x -> x.is(0), ALL);
        looks("no NOTES of it but of another: all KINDS", noted(1, 0, 9), x -> x.is(1), ALL);
        looks("no KIND is so", noted(1, 0, 9), x -> x.is(0), 0);
        looks("one NOTE by WEAR 0", noted(4, 0, 7), x -> x.is(0), KNOB);
        looks("one NOTE by WEAR 1", noted(4, 1, 5), x -> x.is(0), QUILTED + KNOB);
        looks("one NOTE by WEAR 40", noted(4, 40, 1), x -> x.is(0), QUILTED + KNOB + OLD);
        looks("a NOTE of 0", noted(1, 40, 0), x -> x.is(0), PLAIN + WOOL + GREY + OLD);
        looks("by its SIZE", noted(3, 0, 3), x -> x.is(0), PLAIN + WOOL);
        looks("by its SIZE, not by its KIND or WEAR", noted(2, 0, 1), x -> x.is(0), OLD);
        looks("by all NOTES of it", noted(4, 0, 4, 10, 3), x -> x.is(0), PLAIN);
        looks("by all six", noted(4, 0, 4, 1, 4, 9, 4, 10, 4, 19, 4, 20, 3), x -> x.is(0), WOOL);
        looks("by the sixth, too", noted(4, 0, 4, 1, 4, 9, 4, 10, 4, 19, 4, 20, 4), x -> x.is(0), 0);
    }

    private void feel() {
        promise(25);
        range("a COSY", 0, 1, BUSY, (x, k) -> x.feel(k));
        range("the last of five COSIES", 0, 4, told(LONG_TEXT), (x, k) -> x.feel(k));
        bad("there is no COSY in an empty common", EMPTY, x -> x.feel(0));
        looks("no KIND: none", noted(1, 0, 9), x -> x.feel(0), NONE);
        looks("one KIND: all WEAR is alike, the least", noted(4, 0, 7), x -> x.feel(0), 0);
        looks("no NOTES: by WEAR 0 the most alike are two", noted(2), x -> x.feel(0), 0);
        looks("two KINDS that HOLD alike up to 9: the least WEAR by which they do not", noted(4, 0, 4), x -> x.feel(0), 10);
        looks("the same by SIZE 1", noted(1, 0, 1), x -> x.feel(0), 10);
        looks("QUILTED and KNOB are told apart by WEAR 0 alone", noted(2, 1, 3), x -> x.feel(0), 0);
        looks("GREY and OLD by SIZE 1 always HOLD alike: the least", noted(1, 0, 0), x -> x.feel(0), 0);
        answers("the COSY's own WEAR does not count", told("common;cosy 0 0 4;wear 0 40;").then(x -> x.note(0, 0, 4)), x -> x.feel(0), 10);
    }

    private void inside() {
        promise(26);
        range("a COSY", 0, 1, BUSY, (x, k) -> x.inside(k, 0, 0));
        range("the last of five COSIES", 0, 4, ALL_FULL, (x, k) -> x.inside(k, 0, 0));
        range("x", 0, 8, BUSY, (x, n) -> x.inside(0, n, 0));
        range("what", 0, 1, BUSY, (x, what) -> x.inside(0, 0, what));
        bad("there is no COSY in an empty common", EMPTY, x -> x.inside(0, 0, 0));
        bad("no number is as told: one call refused", BUSY, x -> x.inside(2, 9, 2));
        looks("nobody is there: the empty set", told("common;cosy 0 0 4;"), x -> x.inside(0, 8, 0), 1);
        looks("nobody is there: nobody in some", told("common;cosy 0 0 4;"), x -> x.inside(0, 8, 1), 0);
        Ahead row = told("common;cosy 4 0 4;hunted 0;hunted 1;hunted 7;hunted 23;");
        looks("0 FAR: in the COSY's CELL", row, x -> x.inside(0, 0, 1), 1);
        looks("1 FAR", row, x -> x.inside(0, 1, 1), 3);
        looks("2 FAR, rows and columns", row, x -> x.inside(0, 2, 1), 7);
        looks("7 FAR is less than 8", row, x -> x.inside(0, 7, 1), 7);
        looks("8 FAR: all", row, x -> x.inside(0, 8, 1), 15);
        looks("0 FAR: one set and the empty one", row, x -> x.inside(0, 0, 0), 2);
        looks("8 FAR: all sets", row, x -> x.inside(0, 8, 0), 16);
        String six = ";hunted 0;hunted 0;hunted 0;hunted 0;hunted 0;hunted 0;";
        looks("it HOLDS none: the empty set alone", told("common;cosy 3 0 4" + six), x -> x.inside(0, 8, 0), 1);
        looks("it HOLDS none: nobody in some", told("common;cosy 3 0 4" + six), x -> x.inside(0, 8, 1), 0);
        looks("it HOLDS one: sets of one", told("common;cosy 0 0 1" + six), x -> x.inside(0, 8, 0), 7);
        looks("it HOLDS two: sets of two at most", told("common;cosy 0 0 2" + six), x -> x.inside(0, 8, 0), 22);
        looks("it HOLDS five: all but the set of six", told("common;cosy 1 0 4" + six), x -> x.inside(0, 8, 0), 63);
        looks("it HOLDS six: all sets", told("common;cosy 4 0 3" + six), x -> x.inside(0, 8, 0), 64);
        looks("it HOLDS seven: all sets of six", told("common;cosy 4 0 4" + six), x -> x.inside(0, 8, 0), 64);
        looks("all six in some", told("common;cosy 0 0 1" + six), x -> x.inside(0, 8, 1), 63);
        looks("as many as it HOLDS by its WEAR now", told("common;cosy 0 0 2;wear 0 10" + six), x -> x.inside(0, 8, 0), 7);
    }

    private void insideWho() {
        looks("one TAKEN is in none", BUSY, x -> x.inside(0, 8, 1), 5);
        looks("one UNDER it may be in one", BUSY, x -> x.inside(0, 0, 1), 1);
        looks("one UNDER another may be in one", BUSY, x -> x.inside(1, 8, 1), 5);
        looks("those UNDER it take no place in it", told("common;cosy 0 8 1;hunted 8;hunted 8;").then(x -> x.hour(1)), x -> x.inside(0, 0, 0), 3);
    }

    private void twoRefused() {
        promise(27);
        Ahead two = told("common;cosy 0 0 1;cosy 0 5 1;hunted 2;hunted 1;");
        rangeHere("a", 0, 2, told("common;cosy 0 0 1;hunted 2;hunted 1;hunted 4;"), (x, a) -> x.two(a, a == 1 ? 0 : 1, NONE));
        rangeHere("b", 0, 2, told("common;cosy 0 0 1;hunted 2;hunted 1;hunted 4;"), (x, b) -> x.two(b == 1 ? 0 : 1, b, NONE));
        rangeHere("the last of six", 1, 5, told(LONG_TEXT), (x, b) -> x.two(0, b == 0 ? -1 : b, NONE));
        leastBy("k", NONE, BAD_HERE, two, (x, k) -> x.two(0, 1, k));
        badHere("nobody is there in an empty common", EMPTY, x -> x.two(0, 1, NONE));
        badHere("alike: the first", two, x -> x.two(0, 0, NONE));
        badHere("alike: the last", two, x -> x.two(1, 1, 0));
        badHere("no number is as told: one call refused", two, x -> x.two(2, 2, -2));
        no("the first is UNDER a COSY", BUSY, x -> x.two(0, 2, NONE));
        no("the second is UNDER a COSY", BUSY, x -> x.two(2, 0, NONE));
        no("the first is TAKEN", BUSY, x -> x.two(1, 2, NONE));
        no("the second is TAKEN", BUSY, x -> x.two(2, 1, 0));
        no("both are not free", BUSY, x -> x.two(0, 1, 25));
        badHere("BAD goes ahead of NO: k", BUSY, x -> x.two(0, 2, -2));
        badHere("BAD goes ahead of NO: alike, and UNDER a COSY", BUSY, x -> x.two(0, 0, NONE));
        badHere("BAD goes ahead of NO: one that is not there", BUSY, x -> x.two(0, 3, NONE));
        answersAll("-5 counts as none of BAD, NO, FULL", two, x -> row(x.two(0, 1, 1), x.status(0), x.status(1), x.status(2)), NOT_SO_MANY, 0, 0, 0);
    }

    private void twoHowMany() {
        Ahead none = told("common;hunted 2;hunted 1;");
        looks("there is no COSY: no pair", none, x -> x.two(0, 1, NONE), 0);
        looks("there is no COSY: not so many", none, x -> x.two(0, 1, 0), NOT_SO_MANY);
        Ahead four = told("common;cosy 0 1 2;cosy 0 6 2;hunted 0;hunted 0;");
        looks("four pairs", four, x -> x.two(0, 1, NONE), 4);
        long[] pairs = {0, 1, 5, 6, NOT_SO_MANY, NOT_SO_MANY};
        for (int i = 0; i < pairs.length; i++) {
            int k = i;
            looks("of four, rising, pair " + k, four, x -> x.two(0, 1, k), pairs[k]);
        }
        looks("as great as can be: not so many", four, x -> x.two(0, 1, Integer.MAX_VALUE), NOT_SO_MANY);
        Ahead all = told("common;cosy 0 6 2;cosy 0 6 2;cosy 0 6 2;cosy 0 6 2;cosy 0 6 2;hunted 0;hunted 0;");
        looks("25 pairs", all, x -> x.two(0, 1, NONE), 25);
        looks("the first of 25", all, x -> x.two(0, 1, 0), 0);
        looks("the last of 25", all, x -> x.two(0, 1, 24), 24);
        looks("behind the last of 25", all, x -> x.two(0, 1, 25), NOT_SO_MANY);
    }

    /** Two rest by just one pair. */
    private void rests(String sentence, Ahead ahead, int a, int b, int pair) {
        answersAll(sentence, ahead, x -> row(x.two(a, b, NONE), x.two(a, b, 0)), 1, pair);
    }

    private void twoRest() {
        Ahead two = told("common;cosy 0 0 1;cosy 0 5 1;hunted 2;hunted 1;");
        rests("i is of a, j of b", two, 0, 1, 1);
        rests("j is of a, when a is b", two, 1, 0, 5);
        rests("just one more and both choose it: the one of greater number goes elsewhere", told("common;cosy 0 8 1;cosy 0 9 1;hunted 8;hunted 8;"), 0, 1, 1);
        rests("the one of greater number, though it is a", told("common;cosy 0 8 1;cosy 0 9 1;hunted 8;hunted 8;"), 1, 0, 5);
        rests("two more: both rest there", told("common;cosy 0 8 2;cosy 0 9 1;hunted 8;hunted 8;"), 0, 1, 0);
        rests("one COSY alone: both rest there, though just one may be", told("common;cosy 0 8 1;hunted 8;hunted 8;"), 0, 1, 0);
        rests("no more than are UNDER it: both go elsewhere", told("common;cosy 3 8 4;cosy 1 23 1;hunted 8;hunted 8;"), 0, 1, 6);
        Ahead one = told("common;cosy 0 8 1;cosy 1 23 1;hunted 8;hunted 8;hunted 8;").then(x -> x.hour(1)).then(x -> x.carry(0, 9));
        rests("as many UNDER it as it HOLDS: both go elsewhere", one, 1, 2, 6);
        Ahead more = told("common;cosy 0 8 2;cosy 1 23 1;hunted 8;hunted 2;hunted 14;").then(x -> x.hour(1));
        rests("one UNDER it, just one more: the one of greater number goes elsewhere", more, 1, 2, 1);
        rests("none by any: 0 less 9 is less than 0 less 8", told("common;cosy 3 8 1;cosy 3 9 1;hunted 8;hunted 8;"), 0, 1, 6);
        rests("the farthest of all yet is 1 to one, more than 0 less 1", told("common;cosy 3 23 1;cosy 1 23 1;hunted 0;hunted 0;"), 0, 1, 6);
        rests("the 5th COSY", told("common;cosy 3 0 1;cosy 3 0 1;cosy 3 0 1;cosy 3 0 1;cosy 1 0 1;hunted 0;hunted 0;"), 0, 1, 24);
        looks("to get as much by another is not more: both pairs rest", told("common;cosy 0 7 1;cosy 0 9 1;hunted 8;hunted 8;"), x -> x.two(0, 1, NONE), 2);
    }

    private void rain() {
        promise(28);
        range("c", 0, 10, BUSY, (x, c) -> x.rain(c));
        bad("BAD in an empty common, too", EMPTY, x -> x.rain(11));
        answers("it answers 1 in an empty common", EMPTY, x -> x.rain(0), 1);
        answersAll("nobody is UNDER a COSY: 0 by 1", BUSY.then(x -> x.common()).then(x -> x.rain(0)), x -> row(x.part(0), x.part(1)), 0, 1);
        answersAll("by 0 of 10 all are UNDER yet", BUSY.then(x -> x.rain(0)), x -> row(x.part(0), x.part(1)), 1, 1);
        answersAll("by 10 of 10 none is: 0 by 1", BUSY.then(x -> x.rain(10)), x -> row(x.part(0), x.part(1)), 0, 1);
        answersAll("THE FRACTION is the last one", BUSY.then(x -> x.rain(10)).then(x -> x.rain(1)), x -> row(x.part(0), x.part(1)), 9, 10);
        answersAll("THE FRACTION stays behind one refused", BUSY.then(x -> x.rain(11)), x -> row(x.part(0), x.part(1)), 7, 10);
        answers("nobody is let go", BUSY.then(x -> x.rain(10)), x -> x.count(5), 1);
        answers("no HOUR goes by", BUSY.then(x -> x.rain(5)), x -> x.count(3), 1);
        answers("what may be undone stays", BUSY.then(x -> x.rain(5)), x -> x.count(7), 3);
    }

    private void rainLowest() {
        int[] oneAbove = {1, 9, 4, 7, 3, 1, 2, 3, 1, 1, 0}, oneBelow = {1, 10, 5, 10, 5, 2, 5, 10, 5, 10, 1};
        int[] fiveAbove = {5, 9, 4, 7, 3, 5, 2, 3, 1, 1, 0}, fiveBelow = {1, 2, 1, 2, 1, 2, 1, 2, 1, 2, 1};
        Ahead one = told("common;cosy 0 8 1;hunted 8;hunted 8;").then(x -> x.hour(1));
        Ahead five = told("common;cosy 1 8 4;hunted 8;hunted 8;hunted 8;hunted 8;hunted 8;").then(x -> x.hour(1));
        Ahead six = told("common;cosy 0 8 4;cosy 0 8 4;hunted 8;hunted 8;hunted 8;hunted 8;hunted 8;hunted 8;").then(x -> x.hour(1));
        for (int i = 0; i <= 10; i++) {
            int c = i;
            answersAll("lowest terms of one, by " + c, one.then(x -> x.rain(c)), x -> row(x.part(0), x.part(1)), oneAbove[c], oneBelow[c]);
            answersAll("lowest terms of five, by " + c, five.then(x -> x.rain(c)), x -> row(x.part(0), x.part(1)), fiveAbove[c], fiveBelow[c]);
        }
        answersAll("six UNDER two COSIES, by 9", six.then(x -> x.rain(9)), x -> row(x.part(0), x.part(1)), 3, 5);
        answersAll("six UNDER two COSIES, by 1", six.then(x -> x.rain(1)), x -> row(x.part(0), x.part(1)), 27, 5);
    }

    private void years() {
        promise(29);
        range("the SEED", 0, 999999, BUSY, (x, seed) -> x.years(seed, 1));
        range("n", 0, 30, BUSY, (x, n) -> x.years(1, n));
        bad("neither number is as told: one call refused", BUSY, x -> x.years(-1, 31));
        bad("BAD goes by the SEED, though no year goes by", EMPTY, x -> x.years(1000000, 0));
        looks("no year: nobody", told("common;hunted 0;sheriff 0;"), x -> x.years(0, 0), 0);
        looks("no year: nobody, those TAKEN now neither", BUSY, x -> x.years(0, 0), 0);
        looks("nobody is there: nobody is TAKEN", told("common;sheriff 0;"), x -> x.years(5, 30), 0);
        looks("no SHERIFF: nobody is TAKEN", told("common;hunted 0;hunted 1;"), x -> x.years(5, 30), 0);
        looks("30 years, one TAKEN in each", told("common;hunted 7;sheriff 0;"), x -> x.years(999999, 30), 30);
        looks("the least SEED", told("common;hunted 7;sheriff 0;"), x -> x.years(0, 30), 30);
        looks("one TAKEN now is free in each year", told("common;cosy 0 0 1;hunted 5;sheriff 5;").then(x -> x.hour(1)), x -> x.years(0, 1), 0);
        looks("one UNDER a COSY now is free in each year", told("common;cosy 0 23 1;hunted 23;sheriff 0;").then(x -> x.hour(1)), x -> x.years(0, 1), 1);
    }

    /** By SEED 0 the cells drawn are 0, 12, 4, 13, 18, 7. */
    private void yearsDrawn() {
        Ahead one = told("common;cosy 0 0 1;hunted 5;sheriff 0;");
        long[] taken = {0, 0, 1, 2, 3, 4, 5};
        for (int i = 0; i < taken.length; i++) {
            int n = i;
            looks("the CELL drawn first is 0, with a COSY; X goes on: " + n + " years", one, x -> x.years(0, n), taken[n]);
        }
        looks("each in order: the second is drawn behind the first", told("common;cosy 0 0 1;cosy 0 12 1;hunted 5;hunted 5;sheriff 23;"), x -> x.years(0, 1), 0);
        looks("the second of them alone is TAKEN", told("common;cosy 0 0 1;cosy 3 12 1;hunted 5;hunted 5;sheriff 0;"), x -> x.years(0, 1), 1);
        looks("9 HOURS, not 8: the last HOUR counts", told("common;cosy 0 0 1;wear 0 2;hunted 5;sheriff 0;"), x -> x.years(0, 1), 1);
        looks("9 HOURS, not 10", told("common;cosy 0 0 1;wear 0 1;hunted 5;sheriff 0;"), x -> x.years(0, 1), 0);
        // were WEAR 9 behind the first year, the COSY in 0 would let go in the third
        looks("all else as now in each year: WEAR", told("common;cosy 0 0 1;cosy 0 12 1;hunted 5;sheriff 23;"), x -> x.years(0, 3), 0);
        // the numbers drawn in 30 years, by what was worked out apart from the class
        Ahead four = told("common;cosy 1 8 1;cosy 2 20 1;hunted 0;hunted 0;hunted 0;hunted 0;sheriff 3;sheriff 22;");
        int[] seeds = {0, 1, 7, 65536, 999999};
        int[] drawn = {77, 86, 77, 80, 78};
        for (int i = 0; i < seeds.length; i++) {
            int seed = seeds[i];
            looks("all else as now in each of 30 years, by SEED " + seed, four, x -> x.years(seed, 30), drawn[i]);
        }
        Ahead last = LAST_HOUR.then(x -> x.darn(0, 40)).then(x -> x.carry(0, 23)).then(x -> x.sheriff(0)).then(x -> x.sheriff(12));
        looks("HOURS go beyond 999: the two drawn in SHERIFFS' CELLS are TAKEN", last, x -> x.years(0, 1), 2);
    }
}

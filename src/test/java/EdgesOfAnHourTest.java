/** Promise 9 at its edges: hour, and the words of the document on AN HOUR; promise 13's on how many a COSY HOLDS. */
public final class EdgesOfAnHourTest extends Edge {
    public static void main(String[] args) {
        new EdgesOfAnHourTest().finish();
    }

    @Override
    void look() {
        promise(9);
        hours();
        lastHour();
        theCosyTold();
        steps();
        sheriffs();
        sheriffsTake();
        wear();
        letGo();
        promise(13);
        holds();
    }

    private static Ahead hour(int n) {
        return x -> x.hour(n);
    }

    private void hours() {
        range("n", 1, 30, BUSY, (x, n) -> x.hour(n));
        bad("0 HOURS at the last HOUR", LAST_HOUR, x -> x.hour(0));
        answers("1 HOUR goes by", BUSY.then(hour(1)), x -> x.count(3), 2);
        answers("30 HOURS go by", BUSY.then(hour(30)), x -> x.count(3), 31);
        answers("in an empty common HOURS go by", hour(2), x -> x.count(3), 2);
        answers("nobody is TAKEN in an empty common", EMPTY, x -> x.hour(30), 0);
        answersAll("30 HOURS together are one that may be undone", hour(30), x -> row(x.count(7), x.undo(), x.undo()), 1, 0, NO);
        answersAll("two calls are two that may be undone", hour(2).then(hour(1)), x -> row(x.count(7), x.undo(), x.undo()), 2, 2, 0);
        answers("those TAKEN ahead count in the answer", BUSY, x -> x.hour(1), 1);
        answers("all six may be TAKEN", Edge.told("common;hunted 1;hunted 1;hunted 1;hunted 1;hunted 1;hunted 1;sheriff 0;"), x -> x.hour(1), 6);
        answers("the answer is of the last of the HOURS", Edge.told("common;hunted 4;sheriff 0;"), x -> x.hour(4), 1);
        answers("and of no HOUR behind them", Edge.told("common;hunted 4;sheriff 0;"), x -> x.hour(3), 0);
    }

    private void lastHour() {
        answers("the HOUR may be 999", LAST_HOUR, x -> x.count(3), 999);
        answers("at 999 the HOUR stays", LAST_HOUR.then(hour(1)), x -> x.count(3), 999);
        answers("at 999 the HOUR stays by 30, too", LAST_HOUR.then(hour(30)), x -> x.count(3), 999);
        answers("at 999 no COSY wears", LAST_HOUR.then(hour(30)), x -> x.of(0, 3), 0);
        answers("at 999 none of THE HUNTED goes", LAST_HOUR.then(hour(30)), x -> x.about(1, 0), 5);
        answers("at 999 no SHERIFF goes", LAST_HOUR.then(hour(30)), x -> x.where(0), 22);
        answers("at 999 it answers how many are TAKEN", LAST_HOUR, x -> x.hour(30), 1);
        answersAll("at 999 it is one that may be undone", LAST_HOUR, x -> row(x.count(7), x.hour(1), x.count(7), x.undo(), x.undo()), 0, 1, 1, 999, NO);
        Ahead eve = x -> {
            x.cosy(5, 0, 1);
            for (int i = 0; i < 33; i++) {
                x.hour(30);
            }
            x.hour(8);
            x.darn(0, 40);
        };
        answers("from 998 on 1 HOUR goes by to 999", eve.then(hour(1)), x -> x.count(3), 999);
        answers("from 998 on just one of 30 goes by", eve.then(hour(30)), x -> x.of(0, 3), 1);
        answersAll("from 998 on 30 HOURS are undone to 998", eve, x -> row(x.hour(30), x.count(3), x.undo(), x.of(0, 3)), 0, 999, 998, 0);
    }

    /** Where one of the hunted is behind one HOUR. */
    private void goes(String sentence, String common, int p, int cell) {
        answers(sentence, Edge.told(common).then(hour(1)), x -> x.about(p, 0), cell);
    }

    private void isUnder(String sentence, String common, int p, int k) {
        answers(sentence, Edge.told(common).then(hour(1)), x -> x.about(p, 1), k);
    }

    private void theCosyTold() {
        goes("there is no COSY: one stays", "common;hunted 9;", 0, 9);
        goes("a COSY that HOLDS none is none: one stays", "common;cosy 3 11 4;hunted 9;", 0, 9);
        isUnder("a COSY that HOLDS none in one's CELL: one stays free", "common;cosy 3 9 4;hunted 9;", 0, NONE);
        isUnder("a COSY that HOLDS one more is one", "common;cosy 0 8 1;hunted 8;", 0, 0);
        isUnder("as many are UNDER it as it HOLDS: not the next", "common;cosy 0 8 1;hunted 8;hunted 8;", 1, NONE);
        goes("as many are UNDER it as it HOLDS: one goes elsewhere", "common;cosy 0 8 1;cosy 0 11 1;hunted 8;hunted 8;", 1, 9);
        isUnder("by numbers: the first gets UNDER", "common;cosy 0 8 1;hunted 8;hunted 8;", 0, 0);
        goes("the least FAR one, the first", "common;cosy 0 0 1;cosy 0 5 1;hunted 2;", 0, 1);
        goes("the least FAR one, the second", "common;cosy 0 5 1;cosy 0 0 1;hunted 2;", 0, 1);
        goes("of like ones the first, ahead", "common;cosy 0 0 1;cosy 0 4 1;hunted 2;", 0, 1);
        goes("of like ones the first, behind", "common;cosy 0 4 1;cosy 0 0 1;hunted 2;", 0, 3);
        isUnder("of like ones in one CELL the first", "common;cosy 2 8 1;cosy 1 8 4;hunted 8;", 0, 0);
        isUnder("of like ones in one CELL the first that HOLDS more", "common;cosy 0 8 1;wear 0 10;cosy 1 8 4;hunted 8;", 0, 1);
        goes("FAR counts rows and columns", "common;cosy 0 14 1;cosy 0 3 1;hunted 0;", 0, 1);
        goes("the COSY that is farthest of all is one", "common;cosy 0 23 1;hunted 0;", 0, 1);
        isUnder("one that comes into its CELL is not yet UNDER", "common;cosy 0 8 1;hunted 7;", 0, NONE);
        answers("one is UNDER in the next HOUR", Edge.told("common;cosy 0 8 1;hunted 7;").then(hour(2)), x -> x.about(0, 1), 0);
        goes("one that is TAKEN does not go", "common;cosy 0 0 1;hunted 4;sheriff 3;", 0, 3);
        answers("nor in the next HOUR", Edge.told("common;cosy 0 0 1;hunted 4;sheriff 2;").then(hour(2)), x -> x.about(0, 0), 3);
        isUnder("one that is UNDER does not get UNDER another", "common;cosy 0 8 1;cosy 0 8 1;hunted 8;", 0, 0);
        answers("nor in the next HOUR, though that one is the first", Edge.told("common;cosy 3 8 1;cosy 1 8 1;hunted 8;").then(hour(2)),
            x -> x.about(0, 1), 1);
    }

    private void steps() {
        goes("as far by columns as by rows: the column", "common;cosy 0 7 1;hunted 0;", 0, 1);
        goes("further by columns: the column", "common;cosy 0 8 1;hunted 0;", 0, 1);
        goes("further by rows: the row", "common;cosy 0 13 1;hunted 0;", 0, 6);
        goes("just one row off: the row", "common;cosy 0 6 1;hunted 0;", 0, 6);
        goes("just one column off: the column", "common;cosy 0 1 1;hunted 0;", 0, 1);
        goes("the column that way, backwards", "common;cosy 0 0 1;hunted 7;", 0, 6);
        goes("the row that way, backwards", "common;cosy 0 0 1;hunted 13;", 0, 7);
        goes("backwards by columns, onwards by rows", "common;cosy 0 6 1;hunted 1;", 0, 0);
        goes("onwards by columns, backwards by rows", "common;cosy 0 1 1;hunted 6;", 0, 7);
        goes("from the last CELL towards the first", "common;cosy 0 0 1;hunted 23;", 0, 22);
        goes("along the last column", "common;cosy 0 5 1;hunted 23;", 0, 17);
        goes("along the last row", "common;cosy 0 18 1;hunted 23;", 0, 22);
    }

    /** Where the first SHERIFF is behind one HOUR. */
    private void chases(String sentence, String common, int cell) {
        answers(sentence, Edge.told(common).then(hour(1)), x -> x.where(0), cell);
    }

    private void sheriffs() {
        chases("there is none of THE HUNTED: it stays", "common;sheriff 9;", 9);
        chases("there is no free one but one UNDER: it stays", "common;cosy 0 0 1;hunted 0;sheriff 9;", 9);
        answers("there is no free one but one TAKEN: it stays", Edge.told("common;hunted 9;sheriff 9;sheriff 5;").then(hour(1)), x -> x.where(1), 5);
        chases("the least FAR free one, the first", "common;hunted 2;hunted 23;sheriff 0;", 1);
        chases("the least FAR free one, the second", "common;hunted 23;hunted 12;sheriff 0;", 6);
        chases("of like ones the first, by columns", "common;hunted 2;hunted 12;sheriff 0;", 1);
        chases("of like ones the first, by rows", "common;hunted 12;hunted 2;sheriff 0;", 6);
        chases("the farthest of all is one", "common;hunted 23;sheriff 0;", 1);
        chases("one UNDER is passed over for a farther free one", "common;cosy 0 2 1;hunted 2;hunted 18;sheriff 0;", 6);
        chases("a SHERIFF as far by columns as by rows: the column", "common;hunted 7;sheriff 0;", 1);
        chases("a SHERIFF further by rows: the row", "common;hunted 13;sheriff 0;", 6);
        chases("THE HUNTED go first, the SHERIFF towards where one is then", "common;cosy 0 12 1;hunted 7;sheriff 1;", 0);
    }

    /** Who is TAKEN (bits) behind one HOUR. */
    private void takes(String sentence, String common, int who) {
        answers(sentence, Edge.told(common).then(hour(1)), x -> x.fate(0, 1), who);
    }

    private void sheriffsTake() {
        takes("one that is in its CELL then", "common;hunted 1;sheriff 0;", 1);
        takes("one that was in its CELL ahead, with no STEP", "common;hunted 0;sheriff 0;", 1);
        takes("not one that is one CELL off then", "common;hunted 2;sheriff 0;", 0);
        takes("all free ones that are in its CELL", "common;hunted 1;hunted 1;hunted 7;hunted 1;sheriff 0;", 11);
        takes("the sixth, too", "common;hunted 1;hunted 9;hunted 9;hunted 9;hunted 9;hunted 1;sheriff 0;", 33);
        takes("not one UNDER a COSY there", "common;cosy 0 8 1;hunted 8;hunted 8;sheriff 8;", 2);
        takes("one that steps into its CELL", "common;cosy 0 3 1;hunted 1;sheriff 2;", 1);
        takes("not one that steps out of its CELL, and is one off", "common;cosy 0 0 1;hunted 2;sheriff 3;", 0);
        answersAll("by numbers: the second looks for those that the first left", Edge.told("common;hunted 1;hunted 12;sheriff 0;sheriff 0;").then(hour(1)),
            x -> row(x.where(0), x.where(1)), 1, 6);
        takes("the third SHERIFF, too", "common;hunted 23;sheriff 0;sheriff 0;sheriff 22;", 1);
        answersAll("one TAKEN stays in that CELL, UNDER none", Edge.told("common;cosy 0 0 1;hunted 4;sheriff 3;").then(hour(5)),
            x -> row(x.about(0, 0), x.about(0, 1), x.about(0, 2)), 3, NONE, 1);
    }

    /** The WEAR of the first COSY behind one HOUR. */
    private void wears(String sentence, String common, int wear) {
        answers(sentence, Edge.told(common).then(hour(1)), x -> x.of(0, 3), wear);
    }

    private void wear() {
        String[] kinds = {"PLAIN", "QUILTED", "WOOL", "GREY", "KNOB", "OLD"};
        int[] byNobody = {0, 0, 0, 0, 0, 1}, byOne = {1, 1, 1, 0, 2, 2}, byThree = {3, 3, 3, 0, 6, 4};
        for (int kind = 0; kind < 6; kind++) {
            wears(kinds[kind] + " with nobody in its CELL", "common;cosy " + kind + " 8 4;", byNobody[kind]);
            wears(kinds[kind] + " with one in its CELL", "common;cosy " + kind + " 8 4;hunted 8;", byOne[kind]);
            wears(kinds[kind] + " with three in its CELL", "common;cosy " + kind + " 8 4;hunted 8;hunted 8;hunted 8;", byThree[kind]);
        }
        wears("nobody UNDER it, one free in its CELL", "common;cosy 3 8 4;hunted 8;", 0);
        wears("WEAR comes to 40", "common;cosy 2 8 4;wear 0 39;hunted 8;", 40);
        wears("WEAR is 40 at most, of 40", "common;cosy 2 8 4;wear 0 40;hunted 8;", 40);
        wears("WEAR is 40 at most, of 39 and two", "common;cosy 4 8 4;wear 0 39;hunted 8;", 40);
        wears("an OLD one of 40 stays so", "common;cosy 5 8 4;wear 0 40;", 40);
        answers("the 5th COSY wears, too", Edge.told("common;cosy 3 8 4;cosy 3 8 4;cosy 3 8 4;cosy 3 8 4;cosy 5 8 4;").then(hour(1)), x -> x.of(4, 3), 1);
        answers("with as many as are UNDER it ahead of being let go", Edge.told("common;cosy 0 8 2;wear 0 8;hunted 8;hunted 8;").then(hour(1)),
            x -> x.of(0, 3), 10);
    }

    /** Who is UNDER the first COSY (bits) behind one HOUR. */
    private void areUnder(String sentence, String common, int who) {
        answers(sentence, Edge.told(common).then(hour(1)), x -> x.of(0, 5), who);
    }

    private void letGo() {
        areUnder("as many as it HOLDS: none is let go", "common;cosy 0 8 2;wear 0 7;hunted 8;hunted 8;", 3);
        areUnder("one more than it HOLDS: one is let go, the last in number", "common;cosy 0 8 2;wear 0 8;hunted 8;hunted 8;", 1);
        areUnder("the last in number of those UNDER it alone", "common;cosy 0 8 2;wear 0 8;hunted 8;hunted 8;hunted 1;", 1);
        areUnder("it HOLDS none then: the only one is let go", "common;cosy 0 8 1;wear 0 9;hunted 8;", 0);
        areUnder("many more than it HOLDS: as many as need be", "common;cosy 4 8 1;hunted 8;hunted 8;hunted 8;hunted 8;", 3);
        answersAll("one let go is free there", Edge.told("common;cosy 0 8 2;wear 0 8;hunted 8;hunted 8;").then(hour(1)),
            x -> row(x.about(1, 0), x.about(1, 1), x.about(1, 2)), 8, NONE, 0);
        answers("one let go is not TAKEN in that HOUR", Edge.told("common;cosy 0 8 1;wear 0 9;hunted 8;sheriff 8;"), x -> x.hour(1), 0);
        answers("but in the next one", Edge.told("common;cosy 0 8 1;wear 0 9;hunted 8;sheriff 8;"), x -> x.hour(2), 1);
        answersAll("the first let go alone stays UNDER another", Edge.told("common;cosy 0 8 1;wear 0 9;cosy 0 9 1;hunted 8;hunted 9;").then(hour(1)),
            x -> row(x.of(0, 5), x.of(1, 5)), 0, 2);
        answers("where it was carried to", Edge.told("common;cosy 0 8 1;wear 0 8;hunted 8;").then(hour(1)).then(x -> x.carry(0, 20)).then(hour(1)),
            x -> x.about(0, 0), 20);
    }

    private void holds(String sentence, int kind, int size, int wear, int many) {
        answers(sentence, Edge.told("common;cosy " + kind + " 8 " + size + ";wear 0 " + wear + ";"), x -> x.of(0, 4), many);
    }

    private void holds() {
        holds("PLAIN of WEAR 0 HOLDS its SIZE", 0, 4, 0, 4);
        holds("PLAIN: a tenth is cut: 9", 0, 4, 9, 4);
        holds("PLAIN: a tenth is cut: 10", 0, 4, 10, 3);
        holds("PLAIN: a tenth is cut: 19", 0, 4, 19, 3);
        holds("PLAIN of WEAR 39", 0, 4, 39, 1);
        holds("PLAIN comes to 0", 0, 4, 40, 0);
        holds("PLAIN: 0 at least", 0, 1, 40, 0);
        holds("QUILTED: 1 more", 1, 4, 0, 5);
        holds("QUILTED: 1 more than 0", 1, 4, 40, 1);
        holds("QUILTED: 1 more than 0 at least", 1, 1, 40, 1);
        holds("WOOL of WEAR 0", 2, 4, 0, 4);
        holds("WOOL: half of 19 is 9", 2, 4, 19, 4);
        holds("WOOL: half of 20 is 10", 2, 4, 20, 3);
        holds("WOOL: half of 39 is 19", 2, 4, 39, 3);
        holds("WOOL: half of 40 is 20", 2, 4, 40, 2);
        holds("WOOL: 0 at least", 2, 1, 40, 0);
        holds("GREY of WEAR 0 HOLDS 0", 3, 4, 0, 0);
        holds("GREY of WEAR 40 HOLDS 0", 3, 4, 40, 0);
        holds("KNOB of WEAR 0: 2 more than QUILTED", 4, 4, 0, 7);
        holds("KNOB of WEAR 1: as QUILTED", 4, 4, 1, 5);
        holds("KNOB of WEAR 40: as QUILTED", 4, 1, 40, 1);
        holds("OLD: 1 less than WOOL", 5, 4, 0, 3);
        holds("OLD: 1 less than WOOL of 20", 5, 4, 20, 2);
        holds("OLD: comes to 0", 5, 1, 0, 0);
        holds("OLD: 0 at least", 5, 1, 40, 0);
    }
}

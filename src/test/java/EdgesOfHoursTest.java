/** Promises 10 to 15 at their edges: darn, carry, undo, of, about, where. */
public final class EdgesOfHoursTest extends Edge {
    public static void main(String[] args) {
        new EdgesOfHoursTest().finish();
    }

    @Override
    void look() {
        darn();
        carry();
        undo();
        undoOfEight();
        undoGivesBack();
        undoLeaves();
        behindWhatNoneMayBeUndone();
        of();
        about();
        where();
    }

    private void darn() {
        promise(10);
        range("a COSY", 0, 1, BUSY, (x, k) -> x.darn(k, 1));
        range("the last of five COSIES", 0, 4, ALL_FULL, (x, k) -> x.darn(k, 1));
        range("n", 1, 40, BUSY, (x, n) -> x.darn(0, n));
        bad("there is no COSY in an empty common", EMPTY, x -> x.darn(0, 1));
        bad("neither number is as told: one call refused", BUSY, x -> x.darn(2, 0));
        Ahead worn = told("common;cosy 0 8 4;wear 0 40;cosy 0 9 1;wear 1 7;");
        answers("WEAR is 1 less", worn, x -> x.darn(0, 1), 39);
        answers("WEAR is 40 less", worn, x -> x.darn(0, 40), 0);
        answers("WEAR comes to 0", worn, x -> x.darn(1, 7), 0);
        answers("WEAR is 0 at least", worn, x -> x.darn(1, 8), 0);
        answers("WEAR is 0 at least, by 40", worn, x -> x.darn(1, 40), 0);
        answers("WEAR 0 stays 0", told("common;cosy 0 8 4;"), x -> x.darn(0, 1), 0);
        answers("WEAR is kept so", worn.then(x -> x.darn(0, 39)), x -> x.of(0, 3), 1);
        answers("another COSY's WEAR stays", worn.then(x -> x.darn(0, 39)), x -> x.of(1, 3), 7);
        answers("it may be undone", worn.then(x -> x.darn(0, 1)), x -> x.count(7), 1);
        answers("it may be undone, also if WEAR stays", told("common;cosy 0 8 4;").then(x -> x.darn(0, 1)), x -> x.count(7), 1);
        answers("no HOUR goes by", BUSY.then(x -> x.darn(0, 1)), x -> x.count(3), 1);
    }

    private void carry() {
        promise(11);
        range("a COSY", 0, 1, BUSY, (x, k) -> x.carry(k, 0));
        range("the last of five COSIES", 0, 4, ALL_FULL, (x, k) -> x.carry(k, 0));
        range("a CELL", 0, 23, BUSY, (x, n) -> x.carry(0, n));
        bad("there is no COSY in an empty common", EMPTY, x -> x.carry(0, 0));
        bad("neither number is as told: one call refused", BUSY, x -> x.carry(2, 24));
        answers("it was in the CELL told", BUSY, x -> x.carry(0, 23), 8);
        answers("it is in the CELL told, the last", BUSY.then(x -> x.carry(0, 23)), x -> x.of(0, 1), 23);
        answers("it is in the CELL told, the first", BUSY.then(x -> x.carry(0, 0)), x -> x.of(0, 1), 0);
        answers("one UNDER it goes with it", BUSY.then(x -> x.carry(0, 23)), x -> x.about(0, 0), 23);
        answers("one UNDER it stays UNDER it", BUSY.then(x -> x.carry(0, 23)), x -> x.about(0, 1), 0);
        Ahead three = told("common;cosy 0 8 1;cosy 0 9 1;cosy 0 10 1;hunted 8;hunted 9;hunted 10;").then(x -> x.hour(1)).then(x -> x.carry(1, 0));
        answersAll("one UNDER another stays, of lesser and of greater number", three, x -> row(x.about(0, 0), x.about(1, 0), x.about(2, 0)), 8, 0, 10);
        answers("one TAKEN stays", BUSY.then(x -> x.carry(0, 22)).then(x -> x.carry(0, 3)), x -> x.about(1, 0), 22);
        answers("one free in its CELL stays", BUSY.then(x -> x.carry(0, 4)).then(x -> x.carry(0, 9)), x -> x.about(2, 0), 4);
        answers("to its own CELL: it was there", BUSY, x -> x.carry(0, 8), 8);
        answers("to its own CELL: it may be undone, too", BUSY.then(x -> x.carry(0, 8)), x -> x.count(7), 4);
        answers("into another COSY's CELL it may be carried", BUSY.then(x -> x.carry(0, 21)), x -> x.of(0, 1), 21);
        answers("no HOUR goes by, it does not wear", BUSY.then(x -> x.carry(0, 0)), x -> x.of(0, 3), 0);
    }

    private void undo() {
        promise(12);
        no("none may be in an empty common", EMPTY, CosyAsylum::undo);
        no("none may be behind the last one", BUSY.then(x -> x.undo()).then(x -> x.undo()).then(x -> x.undo()), CosyAsylum::undo);
        answersAll("NO counts as NO each time", EMPTY, x -> row(x.undo(), x.undo(), x.status(1), x.status(0)), NO, NO, 2, 0);
        answersAll("the last one first: what may be undone is one less", BUSY, x -> row(x.count(7), x.undo(), x.count(7), x.undo(), x.count(7),
            x.undo(), x.count(7)), 3, 1, 2, 1, 1, 0, 0);
        answers("it answers the HOUR then", x -> x.hour(7), x -> {
            x.hour(3);
            return x.undo();
        }, 7);
        answers("it answers HOUR 0", x -> x.hour(30), CosyAsylum::undo, 0);
        answersAll("what was undone can not be undone again, what comes then can", x -> x.hour(1), x -> row(x.hour(2), x.undo(), x.hour(4), x.undo(),
            x.undo(), x.undo()), 0, 1, 0, 1, 0, NO);
    }

    private void undoOfEight() {
        Ahead eight = x -> {
            for (int n = 1; n <= 8; n++) {
                x.hour(n);
            }
        };
        answers("8 may be undone", eight, x -> x.count(7), 8);
        answersAll("the 8th to be undone is the first HOUR", eight, x -> row(x.undo(), x.undo(), x.undo(), x.undo(), x.undo(), x.undo(), x.undo(),
            x.undo(), x.undo()), 28, 21, 15, 10, 6, 3, 1, 0, NO);
        Ahead nine = eight.then(x -> x.hour(9));
        answers("8 at most, behind a 9th", nine, x -> x.count(7), 8);
        answersAll("behind a 9th the first is no more to be undone", nine, x -> row(x.undo(), x.undo(), x.undo(), x.undo(), x.undo(), x.undo(),
            x.undo(), x.undo(), x.undo()), 36, 28, 21, 15, 10, 6, 3, 1, NO);
        answersAll("behind twenty, the last eight", nine.then(nine).then(x -> x.hour(1)).then(x -> x.hour(1)), x -> row(x.count(7), x.undo(), x.undo(),
            x.undo(), x.undo(), x.undo(), x.undo(), x.undo(), x.undo(), x.undo()), 8, 91, 90, 81, 73, 66, 60, 55, 51, NO);
        answersAll("one undone makes room for one", eight.then(x -> x.undo()).then(x -> x.hour(30)), x -> row(x.count(7), x.undo(), x.undo()), 8, 28, 21);
        Ahead cosy = told("common;cosy 0 8 4;wear 0 40;");
        answersAll("the 9th darned, too", cosy.then(x -> {
            for (int n = 1; n <= 9; n++) {
                x.darn(0, 1);
            }
        }), x -> row(x.count(7), x.of(0, 3)), 8, 31);
        answersAll("the 9th carried, too: the second CELL is the first", cosy.then(x -> {
            for (int cell = 1; cell <= 9; cell++) {
                x.carry(0, cell);
            }
            while (x.count(7) > 0) {
                x.undo();
            }
        }), x -> row(x.of(0, 1), x.undo()), 1, NO);
    }

    private void undoGivesBack() {
        Ahead worn = told("common;cosy 0 8 1;wear 0 8;hunted 8;hunted 12;sheriff 0;").then(x -> x.hour(1)).then(x -> x.hour(1));
        answersAll("so it is behind two HOURS", worn, x -> row(x.about(0, 1), x.about(1, 2), x.where(0), x.of(0, 3), x.count(3)), NONE, 1, 12, 10, 2);
        Ahead undone = worn.then(x -> x.undo());
        answers("UNDER which COSY one was", undone, x -> x.about(0, 1), 0);
        answers("where one was", told("common;cosy 0 8 1;hunted 6;").then(x -> x.hour(1)).then(x -> x.undo()), x -> x.about(0, 0), 6);
        answers("where a SHERIFF was", undone, x -> x.where(0), 6);
        answers("the WEAR", undone, x -> x.of(0, 3), 9);
        answers("the HOUR", undone, x -> x.count(3), 1);
        answers("one TAKEN is free again", told("common;hunted 1;sheriff 0;").then(x -> x.hour(1)).then(x -> x.undo()), x -> x.about(0, 2), 0);
        answers("one UNDER is free again", told("common;cosy 0 1 1;hunted 1;").then(x -> x.hour(1)).then(x -> x.undo()), x -> x.about(0, 1), NONE);
        answers("the WEAR ahead of a COSY darned", worn.then(x -> x.darn(0, 3)).then(x -> x.undo()), x -> x.of(0, 3), 10);
        answers("the CELL ahead of a COSY carried", worn.then(x -> x.carry(0, 3)).then(x -> x.undo()), x -> x.of(0, 1), 8);
        answers("the CELL of one UNDER a COSY carried", BUSY.then(x -> x.carry(0, 3)).then(x -> x.undo()), x -> x.about(0, 0), 8);
    }

    private void undoLeaves() {
        Ahead undone = BUSY.then(x -> x.note(1, 4, 2)).then(x -> x.undo());
        answers("NOTES stay", undone, x -> x.count(6), 3);
        answers("NOTES forgotten stay so", BUSY.then(x -> x.forget()).then(x -> x.undo()), x -> x.count(6), 0);
        answers("THE TEXT stays", undone, x -> x.count(8), 16);
        answersAll("THE FRACTION stays", undone, x -> row(x.part(0), x.part(1)), 7, 10);
        answersAll("STATUS stays", undone, x -> row(x.status(0), x.status(1), x.status(2)), 3, 2, 1);
        answersAll("IMAGES stay", undone, x -> row(x.from(0), x.count(7), x.from(1), x.count(7)), 1, 2, 1, 2);
        answersAll("KIND and SIZE stay", undone, x -> row(x.of(1, 0), x.of(1, 2)), 2, 2);
    }

    private void behindWhatNoneMayBeUndone() {
        no("none may be behind a COSY that comes", BUSY.then(x -> x.cosy(0, 0, 1)), CosyAsylum::undo);
        no("none may be behind one of THE HUNTED that comes", BUSY.then(x -> x.hunted(0)), CosyAsylum::undo);
        no("none may be behind a SHERIFF that comes", BUSY.then(x -> x.sheriff(0)), CosyAsylum::undo);
        no("none may be behind common", BUSY.then(x -> x.common()), CosyAsylum::undo);
        no("none may be behind a COMMON that is read", BUSY.then(x -> x.read()), CosyAsylum::undo);
        answers("one may be, that comes behind those", BUSY.then(x -> x.cosy(0, 0, 1)).then(x -> x.hour(1)), x -> x.count(7), 1);
        answersAll("all may be behind calls refused", BUSY, x -> row(x.cosy(6, 0, 1), x.hunted(24), x.sheriff(24), x.hour(0), x.darn(0, 0), x.carry(0, 24),
            x.count(7)), BAD, BAD, BAD, BAD, BAD, BAD, 3);
        answersAll("all may be behind calls refused as FULL", ALL_FULL, x -> row(x.cosy(0, 0, 1), x.hunted(0), x.sheriff(0), x.note(0, 0, 0), x.type(1),
            x.count(7)), FULL, FULL, FULL, FULL, FULL, 8);
        answersAll("all may be behind a text that can not be read", typed("x"), x -> row(x.read(), x.count(7)), -10, 3);
        answersAll("all may be behind what changes no common", BUSY, x -> row(x.note(0, 0, 0), x.forget(), x.rain(1), x.image(1), x.type(32), x.clear(),
            x.years(1, 1) * 0, x.count(7)), 3, 3, 1, 1, 17, 17, 0, 3);
    }

    private void of() {
        promise(13);
        range("a COSY", 0, 1, BUSY, (x, k) -> x.of(k, 0));
        range("the last of five COSIES", 0, 4, ALL_FULL, (x, k) -> x.of(k, 0));
        range("what", 0, 5, BUSY, (x, what) -> x.of(0, what));
        bad("there is no COSY in an empty common", EMPTY, x -> x.of(0, 0));
        bad("neither number is as told: one call refused", BUSY, x -> x.of(2, 6));
        int[][] due = {{1, 8, 1, 0, 2, 1}, {2, 21, 2, 0, 2, 0}};
        for (int i = 0; i < 12; i++) {
            int k = i / 6, what = i % 6;
            looks("of COSY " + k + " " + what, BUSY, x -> x.of(k, what), due[k][what]);
        }
        looks("nobody is UNDER it: no bit", told("common;cosy 0 8 4;hunted 8;"), x -> x.of(0, 5), 0);
        looks("the first five are UNDER it", told("common;cosy 1 8 4;hunted 8;hunted 8;hunted 8;hunted 8;hunted 8;hunted 8;").then(x -> x.hour(1)),
            x -> x.of(0, 5), 31);
        looks("the last is UNDER it", told("common;cosy 1 8 4;hunted 8;hunted 0;hunted 0;hunted 0;hunted 0;hunted 8;").then(x -> x.hour(1)),
            x -> x.of(0, 5), 33);
        looks("the greatest WEAR", told("common;cosy 0 8 4;wear 0 40;"), x -> x.of(0, 3), 40);
    }

    private void about() {
        promise(14);
        rangeHere("one of THE HUNTED", 0, 2, BUSY, (x, p) -> x.about(p, 0));
        rangeHere("the last of six", 0, 5, ALL_FULL, (x, p) -> x.about(p, 0));
        rangeHere("what", 0, 2, BUSY, (x, what) -> x.about(0, what));
        badHere("there is nobody in an empty common", EMPTY, x -> x.about(0, 0));
        badHere("neither number is as told: one call refused", BUSY, x -> x.about(3, 3));
        int[][] due = {{8, 0, 0}, {22, NONE, 1}, {4, NONE, 0}};
        for (int i = 0; i < 9; i++) {
            int p = i / 3, what = i % 3;
            looks("about " + p + " " + what, BUSY, x -> x.about(p, what), due[p][what]);
        }
        looks("UNDER the 5th COSY", told("common;cosy 3 8 1;cosy 3 8 1;cosy 3 8 1;cosy 3 8 1;cosy 0 8 1;hunted 8;").then(x -> x.hour(1)),
            x -> x.about(0, 1), 4);
    }

    private void where() {
        promise(15);
        range("a SHERIFF", 0, 0, BUSY, (x, s) -> x.where(s));
        range("the last of three", 0, 2, ALL_FULL, (x, s) -> x.where(s));
        bad("there is no SHERIFF in an empty common", EMPTY, x -> x.where(0));
        looks("where it is", BUSY, x -> x.where(0), 22);
        looks("in the last CELL", told("common;sheriff 0;sheriff 23;"), x -> x.where(1), 23);
        looks("in the first CELL", told("common;sheriff 0;sheriff 23;"), x -> x.where(0), 0);
    }
}

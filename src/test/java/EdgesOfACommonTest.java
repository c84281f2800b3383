/** Promises 1 to 7 at their edges: a new object, common, cosy, hunted, sheriff, type, clear. */
public final class EdgesOfACommonTest extends Edge {
    public static void main(String[] args) {
        new EdgesOfACommonTest().finish();
    }

    @Override
    void look() {
        newObject();
        newObjectRefuses();
        common();
        commonStays();
        cosy();
        cosyFull();
        hunted();
        sheriff();
        type();
        clear();
    }

    private void newObject() {
        promise(1);
        String[] counts = {"no COSIES", "none of THE HUNTED", "no SHERIFFS", "the HOUR is 0", "nobody TAKEN", "nobody UNDER a COSY",
            "no NOTES", "none that may be undone", "no byte in THE TEXT"};
        for (int i = 0; i < counts.length; i++) {
            int what = i;
            looks("there is at first: " + counts[i], EMPTY, x -> x.count(what), 0);
        }
        looks("THE FRACTION is 0 at first above", EMPTY, x -> x.part(0), 0);
        looks("THE FRACTION is 1 at first below", EMPTY, x -> x.part(1), 1);
        for (int i = 0; i < 3; i++) {
            int what = i;
            looks("no call was refused at first: " + what, EMPTY, x -> x.status(what), 0);
        }
        looks("digest of nothing", EMPTY, CosyAsylum::digest, Check.digestOf(0, 0, 0, 0, 0, 0, 0, 0, 0, 0, 1));
        answers("objects have nothing of one another", x -> BUSY.on(new CosyAsylum()), CosyAsylum::digest,
            Check.digestOf(0, 0, 0, 0, 0, 0, 0, 0, 0, 0, 1));
        no("objects have no images of one another", x -> BUSY.on(new CosyAsylum()), x -> x.from(0));
    }

    private void newObjectRefuses() {
        no("there is at first no IMAGE 0", EMPTY, x -> x.from(0));
        no("there is at first no IMAGE 1", EMPTY, x -> x.from(1));
        no("there is at first nothing to undo", EMPTY, CosyAsylum::undo);
        bad("there is at first no COSY 0", EMPTY, x -> x.of(0, 0));
        badHere("there is at first nobody 0", EMPTY, x -> x.about(0, 0));
        bad("there is at first no SHERIFF 0", EMPTY, x -> x.where(0));
        looks("THE TEXT is empty at first: its end is the FAULT", EMPTY, CosyAsylum::read, -10);
        looks("there are at first no NOTES to forget", EMPTY, CosyAsylum::forget, 0);
        looks("there is at first no TEXT to clear", EMPTY, CosyAsylum::clear, 0);
    }

    private void common() {
        promise(2);
        looks("an empty one had 0 COSIES", EMPTY, CosyAsylum::common, 0);
        answers("a full one had 5 COSIES", ALL_FULL, CosyAsylum::common, 5);
        answers("called again it had 0 COSIES", BUSY.then(CosyAsylum::common), CosyAsylum::common, 0);
        Ahead again = BUSY.then(CosyAsylum::common);
        String[] counts = {"COSIES", "THE HUNTED", "SHERIFFS", "the HOUR", "TAKEN", "UNDER", "NOTES", "that may be undone"};
        for (int i = 0; i < counts.length; i++) {
            int what = i;
            looks("0 as at first: " + counts[i], again, x -> x.count(what), 0);
        }
        no("nothing may be undone behind it, not itself either", again, CosyAsylum::undo);
        bad("COSY 0 is there no more", again, x -> x.of(0, 0));
        badHere("nobody 0 is there any more", again, x -> x.about(0, 0));
        bad("SHERIFF 0 is there no more", again, x -> x.where(0));
        answers("COSIES begin anew at 0", again, x -> x.cosy(0, 0, 1), 0);
        answers("THE HUNTED begin anew at 0", again, x -> x.hunted(0), 0);
        answers("SHERIFFS begin anew at 0", again, x -> x.sheriff(0), 0);
        answers("NOTES begin anew at 1", again.then(x -> x.cosy(0, 0, 1)), x -> x.note(0, 0, 0), 1);
        answers("all is free behind a full one", ALL_FULL.then(CosyAsylum::common), x -> x.cosy(5, 23, 4), 0);
        Ahead worn = told("common;cosy 0 7 1;wear 0 9;hunted 7;hunted 9;sheriff 9;").then(x -> x.hour(1)).then(CosyAsylum::common)
            .then(x -> x.cosy(0, 7, 4)).then(x -> x.hunted(7)).then(x -> x.hunted(9));
        looks("the WEAR of those there ahead of it is gone", worn, x -> x.of(0, 3), 0);
        looks("one that was let go or UNDER is free anew", worn, x -> x.about(0, 1), NONE);
        looks("one that was TAKEN is free anew", worn, x -> x.about(1, 2), 0);
    }

    private void commonStays() {
        Ahead again = BUSY.then(CosyAsylum::common);
        looks("THE TEXT stays as long as it was", again, x -> x.count(8), SHORT_TEXT.length());
        answers("THE TEXT stays as it was", again, CosyAsylum::read, 2);
        looks("THE FRACTION stays above", again, x -> x.part(0), 7);
        looks("THE FRACTION stays below", again, x -> x.part(1), 10);
        looks("STATUS stays: BAD", again, x -> x.status(0), 3);
        looks("STATUS stays: NO", again, x -> x.status(1), 2);
        looks("STATUS stays: FULL", again, x -> x.status(2), 1);
        answersAll("IMAGE 0 stays", again, x -> row(x.from(0), x.count(0), x.count(6), x.count(7)), 1, 2, 2, 2);
        answersAll("IMAGE 1 stays", again, x -> row(x.from(1), x.count(0), x.count(6), x.count(7)), 1, 1, 1, 2);
        no("an IMAGE that was not kept is not kept by it", x -> x.common(), x -> x.from(0));
    }

    private void cosy() {
        promise(3);
        range("KIND", 0, 5, BUSY, (x, n) -> x.cosy(n, 3, 2));
        range("CELL", 0, 23, BUSY, (x, n) -> x.cosy(1, n, 2));
        range("SIZE", 1, 4, BUSY, (x, n) -> x.cosy(1, 3, n));
        bad("three numbers not as told are one call refused", BUSY, x -> x.cosy(-1, 24, 5));
        answersAll("the numbers are 0 to 4 as they come", EMPTY, x -> row(x.cosy(5, 0, 1), x.cosy(4, 0, 1), x.cosy(3, 0, 1),
            x.cosy(2, 0, 1), x.cosy(1, 0, 1)), 0, 1, 2, 3, 4);
        answersAll("any many are in one CELL", x -> five(x, 9), x -> row(x.of(0, 1), x.of(1, 1), x.of(2, 1), x.of(3, 1), x.of(4, 1)),
            9, 9, 9, 9, 9);
        answersAll("the least: KIND, CELL, SIZE, WEAR", x -> x.cosy(0, 0, 1), x -> row(x.of(0, 0), x.of(0, 1), x.of(0, 2), x.of(0, 3)),
            0, 0, 1, 0);
        answersAll("the greatest: KIND, CELL, SIZE, WEAR", x -> x.cosy(5, 23, 4), x -> row(x.of(0, 0), x.of(0, 1), x.of(0, 2), x.of(0, 3)),
            5, 23, 4, 0);
        answers("its WEAR is 0 in a common worn long since", told("common;cosy 5 0 4;").then(x -> x.hour(30)).then(x -> x.cosy(5, 0, 4)),
            x -> x.of(1, 3), 0);
        answers("its WEAR is 0, where one of its number was worn", told("common;cosy 5 0 4;wear 0 9;").then(CosyAsylum::common).then(x -> x.cosy(5, 0, 4)),
            x -> x.of(0, 3), 0);
        no("behind it none may be undone", BUSY.then(x -> x.cosy(0, 0, 1)), CosyAsylum::undo);
        answers("nobody is UNDER it at once, though in its CELL", BUSY.then(x -> x.cosy(1, 4, 4)), x -> x.of(2, 5), 0);
        answers("NOTES stay behind it", BUSY.then(x -> x.cosy(0, 0, 1)), x -> x.count(6), 2);
    }

    private static void five(CosyAsylum x, int cell) {
        for (int k = 0; k < 5; k++) {
            x.cosy(k, cell, 1);
        }
    }

    private void cosyFull() {
        mayBe("a 5th may be", x -> {
            for (int k = 0; k < 4; k++) {
                x.cosy(0, 0, 1);
            }
        }, x -> x.cosy(0, 0, 1));
        full("a 6th may not be", ALL_FULL, x -> x.cosy(0, 0, 1));
        full("a 6th may not be in hour 0 either", x -> five(x, 0), x -> x.cosy(5, 23, 4));
        bad("a 6th of no KIND is BAD first", ALL_FULL, x -> x.cosy(6, 0, 1));
        bad("a 6th in no CELL is BAD first", ALL_FULL, x -> x.cosy(0, 24, 1));
        bad("a 6th of no SIZE is BAD first", ALL_FULL, x -> x.cosy(0, 0, 0));
        answersAll("it may be undone what may be, behind one refused", BUSY, x -> row(x.cosy(6, 0, 1), x.count(7)), BAD, 3);
        answersAll("there are 5 behind a 6th refused", ALL_FULL, x -> row(x.cosy(0, 0, 1), x.count(0), x.count(7)), FULL, 5, 8);
    }

    private static void six(CosyAsylum x, int cell) {
        for (int p = 0; p < 6; p++) {
            x.hunted(cell);
        }
    }

    private void hunted() {
        promise(4);
        range("CELL", 0, 23, BUSY, (x, n) -> x.hunted(n));
        answersAll("the numbers are 0 to 5 as they come", EMPTY, x -> row(x.hunted(7), x.hunted(7), x.hunted(7), x.hunted(7), x.hunted(0),
            x.hunted(23)), 0, 1, 2, 3, 4, 5);
        mayBe("a 6th may be", x -> {
            for (int p = 0; p < 5; p++) {
                x.hunted(0);
            }
        }, x -> x.hunted(0));
        full("a 7th may not be", ALL_FULL, x -> x.hunted(0));
        full("a 7th may not be where all six are TAKEN", x -> {
            six(x, 3);
            x.sheriff(3);
            x.hour(1);
        }, x -> x.hunted(0));
        bad("a 7th in no CELL is BAD first", ALL_FULL, x -> x.hunted(24));
        bad("a 7th ahead of all CELLS is BAD first", ALL_FULL, x -> x.hunted(-1));
        no("behind one that comes none may be undone", BUSY.then(x -> x.hunted(3)), CosyAsylum::undo);
        answersAll("it may be undone what may be, behind one refused", ALL_FULL, x -> row(x.hunted(0), x.hunted(24), x.count(7)), FULL, BAD, 8);
        answersAll("one comes free, into a COSY's CELL too", BUSY.then(x -> x.hunted(8)), x -> row(x.about(3, 0), x.about(3, 1), x.about(3, 2)),
            8, NONE, 0);
        answersAll("one comes free, into a SHERIFF's CELL too", BUSY.then(x -> x.hunted(22)), x -> row(x.about(3, 0), x.about(3, 1),
            x.about(3, 2)), 22, NONE, 0);
        answers("one comes free, where one of its number was TAKEN", told("common;hunted 9;sheriff 9;").then(x -> x.hour(1)).then(CosyAsylum::common)
            .then(x -> x.hunted(9)), x -> x.about(0, 2), 0);
        answers("one comes to the first CELL", x -> x.hunted(0), x -> x.about(0, 0), 0);
        answers("one comes to the last CELL", x -> x.hunted(23), x -> x.about(0, 0), 23);
    }

    private void sheriff() {
        promise(5);
        range("CELL", 0, 23, BUSY, (x, n) -> x.sheriff(n));
        answersAll("the numbers are 0 to 2 as they come", EMPTY, x -> row(x.sheriff(23), x.sheriff(23), x.sheriff(0)), 0, 1, 2);
        mayBe("a 3rd may be", x -> {
            x.sheriff(1);
            x.sheriff(1);
        }, x -> x.sheriff(1));
        full("a 4th may not be", ALL_FULL, x -> x.sheriff(0));
        bad("a 4th in no CELL is BAD first", ALL_FULL, x -> x.sheriff(24));
        bad("a 4th ahead of all CELLS is BAD first", ALL_FULL, x -> x.sheriff(-1));
        no("behind one that comes none may be undone", BUSY.then(x -> x.sheriff(3)), CosyAsylum::undo);
        answersAll("it may be undone what may be, behind one refused", ALL_FULL, x -> row(x.sheriff(0), x.sheriff(24), x.count(7)), FULL, BAD, 8);
        answers("nobody is TAKEN as one comes, though in that CELL", BUSY.then(x -> x.sheriff(4)), x -> x.count(4), 1);
        answers("one comes to the first CELL", x -> x.sheriff(0), x -> x.where(0), 0);
        answers("one comes to the last CELL", x -> x.sheriff(23), x -> x.where(0), 23);
    }

    private static Ahead bytes(int many) {
        return x -> {
            for (int i = 0; i < many; i++) {
                x.type(32);
            }
        };
    }

    private void type() {
        promise(6);
        range("a byte", 0, 127, BUSY, (x, n) -> x.type(n));
        answers("the first byte: there is 1", EMPTY, x -> x.type(0), 1);
        answers("the second byte: there are 2", bytes(1), x -> x.type(127), 2);
        answers("the 149th byte may be", bytes(148), x -> x.type(59), 149);
        answers("the 150th byte may be", bytes(149), x -> x.type(59), 150);
        full("the 151st byte may not be", bytes(150), x -> x.type(59));
        full("the 151st byte may not be in a full common", ALL_FULL, x -> x.type(0));
        bad("a 151st that is no byte is BAD first", ALL_FULL, x -> x.type(128));
        bad("a 151st below all bytes is BAD first", ALL_FULL, x -> x.type(-1));
        answersAll("there are 150 behind a 151st refused", bytes(150), x -> row(x.type(32), x.count(8)), FULL, 150);
        answers("it may be undone what may be, behind a byte", BUSY.then(x -> x.type(32)), x -> x.count(7), 3);
        answers("the byte 0 is a byte of THE TEXT", typed("common;hunted 3;\0"), CosyAsylum::read, -26);
        answers("the byte 127 is a byte of THE TEXT", typed("common;hunted 3;" + (char) 127), CosyAsylum::read, -26);
        answers("a byte comes behind those there", typed("common;hunted ").then(x -> type(x, "5;")).then(CosyAsylum::read), x -> x.about(0, 0), 5);
    }

    private void clear() {
        promise(7);
        looks("an empty one had 0", EMPTY, CosyAsylum::clear, 0);
        answers("a full one had 150", ALL_FULL, CosyAsylum::clear, 150);
        answers("one of one byte had 1", bytes(1), CosyAsylum::clear, 1);
        looks("called again it had 0", BUSY.then(CosyAsylum::clear), CosyAsylum::clear, 0);
        looks("THE TEXT is empty behind it", ALL_FULL.then(CosyAsylum::clear), x -> x.count(8), 0);
        looks("nothing can be read behind it", BUSY.then(CosyAsylum::clear), CosyAsylum::read, -10);
        answers("it begins anew at 1", ALL_FULL.then(CosyAsylum::clear), x -> x.type(32), 1);
        answers("what was there ahead is not read", BUSY.then(CosyAsylum::clear).then(x -> type(x, "common;")), CosyAsylum::read, 1);
        answersAll("all else stays", BUSY.then(CosyAsylum::clear), x -> row(x.count(0), x.count(1), x.count(2), x.count(3), x.count(4),
            x.count(5), x.count(6), x.count(7), x.part(0), x.part(1), x.status(0), x.status(1), x.status(2)), 2, 3, 1, 1, 1, 1, 2, 3, 7, 10, 3, 2, 1);
    }
}

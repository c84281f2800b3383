/** Promises 30 to 35 at their edges: part, image, from, status, count, digest. */
public final class EdgesOfWhatThereIsTest extends Edge {
    public static void main(String[] args) {
        new EdgesOfWhatThereIsTest().finish();
    }

    @Override
    void look() {
        part();
        image();
        from();
        fromGivesBack();
        fromKeepsApart();
        fromLeaves();
        status();
        statusOfEach();
        statusOfNone();
        count();
        digest();
        digestOfEach();
    }

    private void part() {
        promise(30);
        range("what", 0, 1, BUSY, (x, what) -> x.part(what));
        looks("0 at first", EMPTY, x -> x.part(0), 0);
        looks("by 1 at first", EMPTY, x -> x.part(1), 1);
        looks("above", BUSY, x -> x.part(0), 7);
        looks("below", BUSY, x -> x.part(1), 10);
        looks("below is above 0 where above is 0", BUSY.then(x -> x.rain(10)), x -> x.part(1), 1);
    }

    private void image() {
        promise(31);
        range("i", 0, 1, BUSY, (x, i) -> x.image(i));
        answers("of an empty common 1", EMPTY, x -> x.image(0), 1);
        answers("the second of an empty common 1", EMPTY, x -> x.image(1), 1);
        answers("kept anew 1", BUSY, x -> x.image(0), 1);
        answersAll("kept anew it is the last one", BUSY.then(x -> x.image(0)).then(x -> x.common()), x -> row(x.from(0), x.count(7), x.of(1, 1)), 1, 3, 21);
        answersAll("the other stays", BUSY.then(x -> x.image(0)), x -> row(x.from(1), x.count(0), x.count(1), x.count(3)), 1, 1, 1, 2);
        answersAll("an IMAGE of nothing gives back nothing", BUSY.then(x -> x.common()).then(x -> x.image(1)).then(x -> x.cosy(0, 0, 1)),
            x -> row(x.from(1), x.count(0), x.count(1), x.count(2), x.count(3), x.count(6), x.count(7)), 1, 0, 0, 0, 0, 0, 0);
        answersAll("all stays as it is", BUSY.then(x -> x.image(1)), x -> row(x.count(0), x.count(1), x.count(2), x.count(3), x.count(4), x.count(5),
            x.count(6), x.count(7), x.count(8)), 2, 3, 1, 1, 1, 1, 2, 3, 16);
        answersAll("both may be kept alike", BUSY.then(x -> x.image(0)).then(x -> x.image(1)).then(x -> x.common()), x -> row(x.from(1), x.count(7),
            x.common(), x.from(0), x.count(7)), 1, 3, 2, 1, 3);
    }

    private void from() {
        promise(32);
        range("i", 0, 1, BUSY, (x, i) -> x.from(i));
        no("none was kept: 0", EMPTY, x -> x.from(0));
        no("none was kept: 1", EMPTY, x -> x.from(1));
        no("the other was kept, not 0", x -> x.image(1), x -> x.from(0));
        no("the other was kept, not 1", x -> x.image(0), x -> x.from(1));
        bad("no IMAGE 2: BAD, not NO", EMPTY, x -> x.from(2));
        bad("no IMAGE -1: BAD, not NO", EMPTY, x -> x.from(-1));
        answers("it goes on from it: 1", BUSY, x -> x.from(0), 1);
        answersAll("more than once", BUSY.then(x -> x.from(1)).then(x -> x.common()), x -> row(x.from(1), x.count(0), x.from(1), x.count(0)), 1, 1, 1, 1);
        answersAll("what goes on leaves the IMAGE as it was", BUSY.then(x -> x.from(0)).then(x -> x.hour(9)).then(x -> x.note(0, 0, 0)).then(x -> x.undo())
            .then(x -> x.undo()).then(x -> x.hunted(1)), x -> row(x.from(0), x.count(1), x.count(3), x.count(6), x.count(7)), 1, 3, 1, 2, 2);
    }

    private void fromGivesBack() {
        Ahead first = BUSY.then(x -> x.common()).then(x -> x.from(0));
        int[] due = {2, 3, 1, 1, 1, 1, 2, 2};
        String[] counts = {"COSIES", "THE HUNTED", "SHERIFFS", "the HOUR", "TAKEN", "UNDER", "NOTES", "what may be undone"};
        for (int i = 0; i < due.length; i++) {
            int what = i;
            looks("it has " + counts[i] + " again", first, x -> x.count(what), due[what]);
        }
        answersAll("KIND, CELL, SIZE, WEAR of a COSY", first, x -> row(x.of(1, 0), x.of(1, 1), x.of(1, 2), x.of(0, 3)), 2, 20, 2, 0);
        answersAll("who is UNDER, TAKEN, free, and where", first, x -> row(x.about(0, 1), x.about(1, 2), x.about(2, 1), x.about(2, 0), x.where(0)),
            0, 1, NONE, 4, 22);
        answersAll("its NOTES", first, x -> row(x.is(0), x.is(1), x.forget()), 2, 32, 2);
        Ahead gone = BUSY.then(x -> {
            x.common();
            x.cosy(3, 0, 1);
            x.cosy(3, 1, 1);
            for (int i = 0; i < 6; i++) {
                x.note(1, 40, 9);
            }
            for (int i = 0; i < 12; i++) {
                x.carry(0, i);
            }
        });
        answersAll("its NOTES, of IMAGE 0, though others came", gone.then(x -> x.from(0)), x -> row(x.count(6), x.is(0), x.is(1)), 2, 2, 32);
        answersAll("its NOTES, of IMAGE 1, though others came", gone.then(x -> x.from(1)), x -> row(x.count(6), x.is(0)), 1, 5);
        answersAll("what may be undone, of IMAGE 0, though other came", gone.then(x -> x.from(0)), x -> row(x.undo(), x.of(0, 3), x.of(0, 1), x.undo(),
            x.about(1, 2), x.count(2), x.undo()), 1, 1, 8, 0, 0, 1, NO);
        answersAll("what may be undone, of IMAGE 1, though other came", gone.then(x -> x.from(1)), x -> row(x.undo(), x.of(0, 1), x.undo(), x.about(0, 0),
            x.undo()), 2, 3, 0, 15, NO);
        answersAll("what may be undone", first, x -> row(x.undo(), x.of(0, 3), x.undo(), x.about(1, 2), x.undo()), 1, 1, 0, 0, NO);
        answersAll("eight that may be undone", ALL_FULL.then(x -> x.image(1)).then(x -> x.common()).then(x -> x.from(1)), x -> row(x.count(7), x.undo(),
            x.undo(), x.undo(), x.undo(), x.undo(), x.undo(), x.undo(), x.undo(), x.undo()), 8, 3, 3, 2, 2, 2, 1, 1, 1, NO);
        answersAll("none that may be undone, where none might be", EMPTY.then(x -> x.image(0)).then(x -> x.hour(1)), x -> row(x.from(0), x.undo()), 1, NO);
        answers("going on from one can not be undone itself", first, x -> x.count(7), 2);
    }

    private void fromKeepsApart() {
        Ahead eight = x -> {
            x.cosy(0, 0, 1);
            for (int cell = 1; cell <= 9; cell++) {
                x.carry(0, cell);
            }
            x.image(1);
            for (int cell = 10; cell <= 19; cell++) {
                x.carry(0, cell);
            }
            x.image(0);
        };
        answersAll("each of eight that may be undone, of IMAGE 1", eight.then(x -> x.from(1)), EdgesOfWhatThereIsTest::cellsUndone, 9, 8, 7, 6, 5, 4, 3, 2, 1, 1);
        answersAll("each of eight that may be undone, of IMAGE 0", eight.then(x -> x.from(1)).then(x -> x.carry(0, 23)).then(x -> x.from(0)),
            EdgesOfWhatThereIsTest::cellsUndone, 19, 18, 17, 16, 15, 14, 13, 12, 11, 11);
        answersAll("8 at most may be undone, also going on from one of 8", eight.then(x -> x.from(1)).then(x -> x.carry(0, 23)),
            EdgesOfWhatThereIsTest::cellsUndone, 23, 9, 8, 7, 6, 5, 4, 3, 2, 2);
        answersAll("what was undone behind it is kept by it", eight.then(x -> cellsUndone(x)).then(x -> x.from(0)), EdgesOfWhatThereIsTest::cellsUndone, 19, 18,
            17, 16, 15, 14, 13, 12, 11, 11);
    }

    /** The cells of the first cosy, now and as one after the other is undone, nine times. */
    private static long[] cellsUndone(CosyAsylum x) {
        long[] cells = new long[10];
        for (int i = 0; i < cells.length; i++) {
            cells[i] = x.of(0, 1);
            x.undo();
        }
        return cells;
    }

    private void fromLeaves() {
        Ahead first = BUSY.then(x -> x.rain(4)).then(x -> x.type(32)).then(x -> x.from(0));
        looks("THE TEXT stays", first, x -> x.count(8), 17);
        answers("THE TEXT stays as it was typed", BUSY.then(x -> x.clear()).then(x -> type(x, "common;hunted 9;")).then(x -> x.from(0)).then(x -> x.read()),
            x -> x.about(0, 0), 9);
        answersAll("THE FRACTION stays", first, x -> row(x.part(0), x.part(1)), 3, 5);
        answersAll("STATUS stays", first, x -> row(x.status(0), x.status(1), x.status(2)), 3, 2, 1);
        answersAll("STATUS goes on", first, x -> row(x.from(2), x.status(0)), BAD, 4);
        answersAll("the other IMAGE stays", first, x -> row(x.from(1), x.count(3)), 1, 2);
        answersAll("all stays, where none was kept", x -> {
            x.cosy(5, 0, 4);
            x.hour(3);
        }, x -> row(x.from(0), x.from(1), x.count(0), x.count(3), x.count(7), x.of(0, 3)), NO, NO, 1, 3, 1, 3);
    }

    private void status() {
        promise(33);
        rangeBy("what", 0, 2, NONE, BUSY, (x, what) -> x.status(what));
        looks("BAD", BUSY, x -> x.status(0), 3);
        looks("NO", BUSY, x -> x.status(1), 2);
        looks("FULL", BUSY, x -> x.status(2), 1);
        answersAll("another what counts as BAD each time", EMPTY, x -> row(x.status(3), x.status(-1), x.status(0)), NONE, NONE, 2);
        looks("to look at it counts nothing", BUSY.then(x -> x.status(0)).then(x -> x.status(1)), x -> x.status(0), 3);
    }

    /** Each call that may be refused as BAD, once, whatever it answers then. */
    private void statusOfEach() {
        Call[] bad = {x -> x.cosy(6, 0, 1), x -> x.hunted(24), x -> x.sheriff(24), x -> x.type(128), x -> x.hour(0), x -> x.darn(0, 0), x -> x.carry(0, 24),
            x -> x.of(0, 6), x -> x.about(0, 3), x -> x.where(9), x -> x.then(0, 41, 0), x -> x.fate(41, 0), x -> x.when(9), x -> x.place(0, 21),
            x -> x.run(9, 0), x -> x.stitches(0, 10), x -> x.note(0, 41, 0), x -> x.is(9), x -> x.feel(9), x -> x.inside(0, 9, 0), x -> x.two(0, 0, 0),
            x -> x.rain(11), x -> x.years(0, 31), x -> x.part(2), x -> x.image(2), x -> x.from(2), x -> x.status(3), x -> x.count(9)};
        long[] due = {BAD, BAD, BAD, BAD, BAD, BAD, BAD, BAD, BAD_HERE, BAD, BAD_HERE, BAD, BAD, BAD, BAD_HERE, BAD, BAD, BAD, BAD, BAD, BAD_HERE, BAD, BAD,
            BAD, BAD, BAD, NONE, BAD};
        String[] names = {"cosy", "hunted", "sheriff", "type", "hour", "darn", "carry", "of", "about", "where", "then", "fate", "when", "place", "run", "stitches",
            "note", "is", "feel", "inside", "two", "rain", "years", "part", "image", "from", "status", "count"};
        for (int i = 0; i < bad.length; i++) {
            badBy("BAD counts for " + names[i], BUSY, bad[i], due[i]);
        }
        answersAll("all of them count", BUSY, x -> {
            for (Call call : bad) {
                call.on(x);
            }
            return row(x.status(0), x.status(1), x.status(2));
        }, 3 + bad.length, 2, 1);
        no("NO counts for undo", EMPTY, x -> x.undo());
        no("NO counts for run", BUSY, x -> x.run(0, 0));
        no("NO counts for two", BUSY, x -> x.two(0, 2, 0));
        no("NO counts for from", EMPTY, x -> x.from(0));
        full("FULL counts for cosy", ALL_FULL, x -> x.cosy(0, 0, 1));
        full("FULL counts for hunted", ALL_FULL, x -> x.hunted(0));
        full("FULL counts for sheriff", ALL_FULL, x -> x.sheriff(0));
        full("FULL counts for type", ALL_FULL, x -> x.type(0));
        full("FULL counts for note", ALL_FULL, x -> x.note(0, 0, 0));
    }

    private void statusOfNone() {
        Ahead free = told("common;cosy 0 8 1;hunted 8;hunted 0;");
        looks("NONE of when is not refused", free, x -> x.when(0), NONE);
        looks("NONE of run is not refused", told("common;hunted 0;"), x -> x.run(0, 0), NONE);
        looks("NONE of stitches is not refused", free, x -> x.stitches(0, 9), NONE);
        looks("NONE of feel is not refused", free.then(x -> x.note(0, 0, 9)), x -> x.feel(0), NONE);
        looks("NONE of about is not refused", free, x -> x.about(0, 1), NONE);
        looks("NONE of then is not refused", free, x -> x.then(1, 0, 1), NONE);
        looks("-5 of run is not refused", free, x -> x.run(0, 1), NOT_SO_MANY);
        looks("-5 of two is not refused", free, x -> x.two(0, 1, 9), NOT_SO_MANY);
        looks("-10 of a FAULT at the first byte is not refused", typed("x"), CosyAsylum::read, -10);
        looks("-10 of an empty TEXT is not refused", EMPTY, CosyAsylum::read, -10);
    }

    private void count() {
        promise(34);
        range("what", 0, 8, BUSY, (x, what) -> x.count(what));
        int[] busy = {2, 3, 1, 1, 1, 1, 2, 3, 16}, full = {5, 6, 3, 3, 0, 0, 6, 8, 150};
        String[] counts = {"COSIES", "THE HUNTED", "SHERIFFS", "the HOUR", "TAKEN", "UNDER COSIES", "NOTES", "that may be undone", "bytes of THE TEXT"};
        for (int i = 0; i < counts.length; i++) {
            int what = i;
            looks("how many: " + counts[i] + ", none", EMPTY, x -> x.count(what), 0);
            looks("how many: " + counts[i], BUSY, x -> x.count(what), busy[what]);
            if (what != 4 && what != 5) {
                looks("how many: " + counts[i] + ", all full", ALL_FULL, x -> x.count(what), full[what]);
            }
        }
        Ahead taken = told("common;hunted 1;hunted 1;hunted 1;hunted 1;hunted 1;hunted 1;sheriff 0;").then(x -> x.hour(1));
        looks("all six TAKEN", taken, x -> x.count(4), 6);
        looks("those TAKEN are not UNDER", taken, x -> x.count(5), 0);
        Ahead under = told("common;cosy 0 8 4;cosy 0 8 4;hunted 8;hunted 8;hunted 8;hunted 8;hunted 8;hunted 8;").then(x -> x.hour(1));
        looks("all six UNDER COSIES, of each", under, x -> x.count(5), 6);
        looks("the greatest HOUR", LAST_HOUR, x -> x.count(3), 999);
    }

    private void digest() {
        promise(35);
        looks("of a new object: nine counts, THE FRACTION", EMPTY, CosyAsylum::digest, Check.digestOf(0, 0, 0, 0, 0, 0, 0, 0, 0, 0, 1));
        looks("of all there is", BUSY, CosyAsylum::digest, Check.digestOf(2, 3, 1, 1, 1, 1, 2, 3, 16, 1, 8, 1, 0, 2, 21, 2, 0, 8, 0, 0, 22, -1, 1, 4, -1, 0,
            22, 0, 0, 2, 1, 3, 1, 7, 10));
        looks("of a full common", told(LONG_TEXT), CosyAsylum::digest, Check.digestOf(5, 6, 3, 0, 0, 0, 0, 0, 0, 0, 0, 1, 3, 1, 1, 2, 0, 2, 2, 3, 0, 3, 3, 4, 0,
            4, 4, 1, 40, 0, -1, 0, 1, -1, 0, 2, -1, 0, 3, -1, 0, 4, -1, 0, 5, -1, 0, 6, 7, 8, 0, 1));
        looks("of six NOTES", x -> {
            x.cosy(0, 0, 1);
            for (int i = 1; i <= 6; i++) {
                x.note(0, i, i);
            }
        }, CosyAsylum::digest, Check.digestOf(1, 0, 0, 0, 0, 0, 6, 0, 0, 0, 0, 1, 0, 0, 1, 1, 0, 2, 2, 0, 3, 3, 0, 4, 4, 0, 5, 5, 0, 6, 6, 0, 1));
    }

    /** Each of what is told changes it: what is there is worked out by the promise's own words. */
    private void digestOfEach() {
        looks("of an empty common with a byte of THE TEXT", x -> x.type(1), CosyAsylum::digest, Check.digestOf(0, 0, 0, 0, 0, 0, 0, 0, 1, 0, 1));
        looks("of an HOUR gone by, that may be undone", x -> x.hour(1), CosyAsylum::digest, Check.digestOf(0, 0, 0, 1, 0, 0, 0, 1, 0, 0, 1));
        looks("of one UNDER COSY 0", told("common;cosy 0 8 1;hunted 8;").then(x -> x.hour(1)), CosyAsylum::digest,
            Check.digestOf(1, 1, 0, 1, 0, 1, 0, 1, 0, 0, 8, 1, 1, 8, 0, 0, 0, 1));
        looks("of one TAKEN: UNDER -1, TAKEN 1", told("common;hunted 1;sheriff 0;").then(x -> x.hour(1)), CosyAsylum::digest,
            Check.digestOf(0, 1, 1, 1, 1, 0, 0, 1, 0, 1, -1, 1, 1, 0, 1));
        answersAll("STATUS is not of it", EMPTY, x -> row(x.digest() - x.digest(), x.count(9), x.digest()), 0, BAD,
            Check.digestOf(0, 0, 0, 0, 0, 0, 0, 0, 0, 0, 1));
        answers("IMAGES are not of it", x -> x.image(0), CosyAsylum::digest, Check.digestOf(0, 0, 0, 0, 0, 0, 0, 0, 0, 0, 1));
    }
}

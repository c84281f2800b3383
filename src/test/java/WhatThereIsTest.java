/** Promises 30 to 35: part, image, from, status, count, digest. */
public final class WhatThereIsTest {
    private static final Check c = new Check("WhatThereIsTest");

    public static void main(String[] args) {
        part();
        images();
        imagesKeepTheirOwn();
        status();
        count();
        digest();
        c.finish();
    }

    private static void part() {
        c.promise(30);
        CosyAsylum x = new CosyAsylum();
        c.due("part(0)", x.part(0), 0);
        c.due("part(1)", x.part(1), 1);
        c.due("part(-1)", x.part(-1), -2);
        c.due("part(2)", x.part(2), -2);
        c.status(x, 2, 0, 0);
    }

    private static void images() {
        c.promise(31);
        CosyAsylum x = Check.told("common;cosy 5 7 3;hunted 7;hunted 0;sheriff 23;");
        c.due("image(-1)", x.image(-1), -2);
        c.due("image(2)", x.image(2), -2);
        x.hour(3);
        x.darn(0, 1);
        x.note(0, 4, 2);
        long kept = x.digest();
        c.due("image(1)", x.image(1), 1);
        c.promise(32);
        c.due("from(0): none was kept", x.from(0), -3);
        c.due("from(2)", x.from(2), -2);
        c.due("from(-1)", x.from(-1), -2);
        c.due("digest()", x.digest(), kept);
        c.status(x, 4, 1, 0);
        x.undo();
        x.undo();
        x.hunted(4);
        x.cosy(1, 1, 1);
        x.sheriff(2);
        x.forget();
        x.note(1, 1, 1);
        x.note(1, 2, 1);
        x.hour(4);
        long other = x.digest();
        c.due("image(0)", x.image(0), 1);
        c.due("from(1)", x.from(1), 1);
        c.due("digest()", x.digest(), kept);
        c.due("undo(): what may be undone is kept", x.undo(), 3);
        c.due("of(0, 3)", x.of(0, 3), 7);
        c.due("undo()", x.undo(), 0);
        c.due("undo()", x.undo(), -3);
        c.due("from(0)", x.from(0), 1);
        c.due("digest()", x.digest(), other);
        c.due("from(1), once more", x.from(1), 1);
        c.due("digest()", x.digest(), kept);
        c.due("undo()", x.undo(), 3);
    }

    private static void imagesKeepTheirOwn() {
        CosyAsylum x = new CosyAsylum();
        x.cosy(0, 0, 1);
        x.hunted(0);
        x.image(0);
        x.hour(1);
        x.rain(1);
        x.type(59);
        x.hour(0);
        x.image(1);
        x.from(0);
        c.due("part(0): the fraction stays", x.part(0), 9);
        c.due("count(8): the text stays", x.count(8), 1);
        c.due("status(0): the status stays", x.status(0), 1);
        c.due("count(5)", x.count(5), 0);
        c.due("count(7)", x.count(7), 0);
        c.due("from(1): the other image stays", x.from(1), 1);
        c.due("count(5)", x.count(5), 1);
        x.image(0);
        x.undo();
        x.from(0);
        c.due("count(5): kept anew", x.count(5), 1);
        // the rows that the eight undos stand in are each object's own
        for (int i = 0; i < 9; i++) {
            x.hour(1);
        }
        x.image(1);
        for (int i = 0; i < 9; i++) {
            x.hour(2);
        }
        x.from(1);
        for (int hour = 9; hour > 1; hour--) {
            c.due("undo()", x.undo(), hour);
        }
        c.due("undo()", x.undo(), -3);
    }

    private static void status() {
        c.promise(33);
        CosyAsylum x = new CosyAsylum();
        c.due("status(3)", x.status(3), -1);
        c.due("status(-1)", x.status(-1), -1);
        c.status(x, 2, 0, 0);
        x.undo();
        x.from(1);
        for (int i = 0; i < 4; i++) {
            x.sheriff(0);
        }
        x.about(0, 0);
        x.count(9);
        c.status(x, 4, 2, 1);
        // answers that are none of BAD, NO, FULL are not counted: NONE, -5, faults, 0
        x.hunted(5);
        x.hunted(6);
        c.due("read()", x.read(), -10);
        c.due("when(0)", Check.told("common;hunted 0;").when(0), -1);
        c.due("run(0, -1)", x.run(0, -1), -1);
        c.due("two(0, 1, 0)", x.two(0, 1, 0), -5);
        x.cosy(0, 5, 1);
        c.due("run(0, 1)", x.run(0, 1), -5);
        c.due("stitches(0, 9)", x.stitches(0, 9), -1);
        x.note(0, 0, 9);
        c.due("feel(0)", x.feel(0), -1);
        c.status(x, 4, 2, 1);
        x.common();
        c.status(x, 4, 2, 1);
    }

    private static void count() {
        c.promise(34);
        CosyAsylum x = Check.told("common;cosy 0 7 1;cosy 0 0 1;hunted 7;hunted 7;hunted 0;hunted 14;sheriff 13;");
        x.type(1);
        x.note(0, 0, 0);
        x.hour(2);
        x.carry(1, 5);
        c.counts(x, 2, 4, 1, 2, 1, 2, 1, 2, 1);
        c.due("count(-1)", x.count(-1), -2);
        c.due("count(9)", x.count(9), -2);
        c.status(x, 2, 0, 0);
    }

    private static void digest() {
        c.promise(35);
        CosyAsylum x = Check.told("common;cosy 0 7 1;cosy 4 0 2;wear 1 7;hunted 7;hunted 14;sheriff 13;sheriff 23;");
        x.type(1);
        x.type(2);
        x.type(3);
        x.note(1, 4, 3);
        x.note(0, 40, 0);
        c.due("digest()", x.digest(), Check.digestOf(2, 2, 2, 0, 0, 0, 2, 0, 3, 0, 7, 1, 0, 4, 0, 2, 7, 7, -1, 0, 14, -1, 0, 13, 23,
            1, 4, 3, 0, 40, 0, 0, 1));
        x.hour(1);
        x.rain(3);
        x.hour(99);
        // the second goes to 13, where the first sheriff is
        c.due("digest()", x.digest(), Check.digestOf(2, 2, 2, 1, 1, 1, 2, 1, 3, 0, 7, 1, 1, 4, 0, 2, 7, 7, 0, 0, 13, -1, 1, 13, 23,
            1, 4, 3, 0, 40, 0, 7, 10));
    }
}

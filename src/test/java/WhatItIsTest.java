/** Promises 22 to 29: note, forget, is, feel, inside, two, rain, years. */
public final class WhatItIsTest {
    private static final Check c = new Check("WhatItIsTest");

    public static void main(String[] args) {
        noteAndForget();
        is();
        feel();
        inside();
        insideOfThoseLeft();
        two();
        twoByRoom();
        rain();
        years();
        c.finish();
    }

    private static void noteAndForget() {
        c.promise(22);
        CosyAsylum x = Check.told("common;cosy 0 0 1;cosy 1 1 2;");
        x.hour(1);
        c.due("note(-1, 0, 0)", x.note(-1, 0, 0), -2);
        c.due("note(2, 0, 0)", x.note(2, 0, 0), -2);
        c.due("note(0, -1, 0)", x.note(0, -1, 0), -2);
        c.due("note(0, 41, 0)", x.note(0, 41, 0), -2);
        c.due("note(0, 0, -1)", x.note(0, 0, -1), -2);
        c.due("note(0, 0, 10)", x.note(0, 0, 10), -2);
        c.due("count(6)", x.count(6), 0);
        c.due("note(0, 0, 0)", x.note(0, 0, 0), 1);
        c.due("note(1, 40, 9)", x.note(1, 40, 9), 2);
        for (int i = 3; i <= 6; i++) {
            c.due("note(1, 40, 9)", x.note(1, 40, 9), i);
        }
        c.due("note(0, 0, 0), the 7th", x.note(0, 0, 0), -4);
        c.due("note(0, 0, 10), the 7th", x.note(0, 0, 10), -2);
        c.due("count(6)", x.count(6), 6);
        c.due("count(7): hours may yet be undone", x.count(7), 1);
        c.status(x, 7, 0, 1);
        c.promise(23);
        c.due("forget()", x.forget(), 6);
        c.due("count(6)", x.count(6), 0);
        c.due("forget()", x.forget(), 0);
        c.due("note(1, 0, 0)", x.note(1, 0, 0), 1);
        c.due("forget()", x.forget(), 1);
        c.status(x, 7, 0, 1);
    }

    /** The kinds that one note of a cosy of this size leaves. */
    private static void leaves(int size, int w, int n, int kinds) {
        CosyAsylum x = Check.told("common;cosy 3 0 " + size + ";wear 0 17;");
        x.note(0, w, n);
        c.due("size " + size + ", note(0, " + w + ", " + n + "), is(0)", x.is(0), kinds);
    }

    private static void is() {
        c.promise(24);
        leaves(2, 0, 2, 1 + 4);
        leaves(2, 0, 3, 2);
        leaves(2, 0, 0, 8);
        leaves(2, 0, 5, 16);
        leaves(2, 0, 1, 32);
        leaves(2, 0, 4, 0);
        leaves(2, 1, 3, 2 + 16);
        leaves(2, 10, 2, 2 + 4 + 16);
        leaves(2, 40, 0, 1 + 4 + 8 + 32);
        leaves(4, 40, 1, 2 + 16 + 32);
        leaves(4, 0, 7, 16);
        CosyAsylum x = Check.told("common;cosy 0 0 2;cosy 0 0 3;");
        c.due("is(0): no notes", x.is(0), 63);
        x.note(0, 0, 2);
        c.due("is(1): none of it", x.is(1), 63);
        x.note(1, 0, 2);
        c.due("is(1)", x.is(1), 32);
        x.note(0, 10, 2);
        c.due("is(0): wool by both", x.is(0), 4);
        x.note(0, 10, 1);
        c.due("is(0): none by all", x.is(0), 0);
        x.forget();
        c.due("is(0)", x.is(0), 63);
        c.due("is(-1)", x.is(-1), -2);
        c.due("is(2)", x.is(2), -2);
        c.status(x, 2, 0, 0);
    }

    private static void feel() {
        c.promise(25);
        CosyAsylum x = Check.told("common;cosy 0 0 2;wear 0 3;cosy 0 0 4;cosy 0 0 1;");
        c.due("feel(0): two alike are fewest of six", x.feel(0), 0);
        x.note(0, 0, 2);
        c.due("feel(0): plain or wool, by wear 10", x.feel(0), 10);
        x.note(0, 10, 1);
        c.due("feel(0): plain alone", x.feel(0), 0);
        x.note(0, 10, 9);
        c.due("feel(0): no kind", x.feel(0), -1);
        x.forget();
        x.note(1, 1, 5);
        c.due("feel(1): quilted or knob, by wear 0", x.feel(1), 0);
        x.forget();
        // size 1: at wear 40 plain, wool, grey and old all hold 0; at wear 0 only grey and old, at 10 all but wool
        x.note(2, 40, 0);
        c.due("is(2)", x.is(2), 1 + 4 + 8 + 32);
        c.due("feel(2)", x.feel(2), 0);
        x.forget();
        // size 4: quilted, wool, knob hold 4 by wear 10; at wear 0 they hold 5, 4, 7
        x.note(1, 10, 4);
        c.due("is(1)", x.is(1), 2 + 4 + 16);
        c.due("feel(1)", x.feel(1), 0);
        x.forget();
        // size 4: wool (3) and plain (3) of none and ten: old 3, plain 3 by wear 10 and wool 4; by wear 0 4, 4, 3
        x.note(1, 10, 3);
        c.due("is(1)", x.is(1), 1 + 32);
        c.due("feel(1): plain 4, old 3 by wear 0", x.feel(1), 0);
        c.due("feel(-1)", x.feel(-1), -2);
        c.due("feel(3)", x.feel(3), -2);
        c.status(x, 2, 0, 0);
    }

    private static void inside() {
        c.promise(26);
        CosyAsylum x = Check.told("common;cosy 0 0 2;cosy 3 0 4;cosy 4 23 4;hunted 0;hunted 1;hunted 6;hunted 2;hunted 23;");
        c.due("inside(0, 0, 0)", x.inside(0, 0, 0), 2);
        c.due("inside(0, 0, 1)", x.inside(0, 0, 1), 1);
        c.due("inside(0, 1, 0): 1 + 3 + 3", x.inside(0, 1, 0), 7);
        c.due("inside(0, 1, 1)", x.inside(0, 1, 1), 7);
        c.due("inside(0, 2, 0): 1 + 4 + 6", x.inside(0, 2, 0), 11);
        c.due("inside(0, 7, 1)", x.inside(0, 7, 1), 15);
        c.due("inside(0, 8, 0): 1 + 5 + 10", x.inside(0, 8, 0), 16);
        c.due("inside(0, 8, 1)", x.inside(0, 8, 1), 31);
        c.due("inside(1, 8, 0)", x.inside(1, 8, 0), 1);
        c.due("inside(1, 8, 1)", x.inside(1, 8, 1), 0);
        c.due("inside(2, 8, 0): all sets", x.inside(2, 8, 0), 32);
        c.due("inside(2, 0, 0)", x.inside(2, 0, 0), 2);
        c.due("inside(2, 0, 1)", x.inside(2, 0, 1), 16);
        c.due("inside(0, -1, 0)", x.inside(0, -1, 0), -2);
        c.due("inside(0, 9, 0)", x.inside(0, 9, 0), -2);
        c.due("inside(0, 0, -1)", x.inside(0, 0, -1), -2);
        c.due("inside(0, 0, 2)", x.inside(0, 0, 2), -2);
        c.due("inside(3, 0, 0)", x.inside(3, 0, 0), -2);
        c.due("inside(-1, 0, 0)", x.inside(-1, 0, 0), -2);
        c.status(x, 6, 0, 0);
        c.due("six and a knob", Check.told("common;cosy 4 0 4;hunted 0;hunted 0;hunted 0;hunted 0;hunted 0;hunted 0;").inside(0, 0, 0), 64);
    }

    private static void insideOfThoseLeft() {
        // 0 under the cosy, 1 beside it with no room, 2 taken
        CosyAsylum x = Check.told("common;cosy 0 8 1;hunted 8;hunted 9;hunted 23;sheriff 23;");
        x.hour(1);
        c.due("fate(0, 1)", x.fate(0, 1), 4);
        c.due("inside(0, 8, 0): not the taken one", x.inside(0, 8, 0), 3);
        c.due("inside(0, 8, 1)", x.inside(0, 8, 1), 3);
    }

    private static void pairs(CosyAsylum x, int a, int b, int... pairs) {
        c.due("two(" + a + ", " + b + ", -1)", x.two(a, b, -1), pairs.length);
        for (int k = 0; k < pairs.length; k++) {
            c.due("two(" + a + ", " + b + ", " + k + ")", x.two(a, b, k), pairs[k]);
        }
        c.due("two(" + a + ", " + b + ", " + pairs.length + ")", x.two(a, b, pairs.length), -5);
        c.due("two(" + a + ", " + b + ", most)", x.two(a, b, Integer.MAX_VALUE), -5);
    }

    private static void two() {
        c.promise(27);
        // one place each: the lesser number has its own in any case, the greater one gives way
        CosyAsylum x = Check.told("common;cosy 0 0 1;cosy 0 5 1;hunted 2;hunted 1;");
        pairs(x, 0, 1, 1);
        pairs(x, 1, 0, 5);
        c.due("two(0, 0, 0)", x.two(0, 0, 0), -10);
        c.due("two(0, 2, 0)", x.two(0, 2, 0), -10);
        c.due("two(2, 0, 0)", x.two(2, 0, 0), -10);
        c.due("two(-1, 0, 0)", x.two(-1, 0, 0), -10);
        c.due("two(0, -1, 0)", x.two(0, -1, 0), -10);
        c.due("two(0, 1, -2)", x.two(0, 1, -2), -10);
        c.status(x, 6, 0, 0);
        x.sheriff(2);
        x.sheriff(1);
        x.hour(1);
        c.due("two(0, 1, 0): taken", x.two(0, 1, 0), -3);
        c.due("two(0, 1, -2)", x.two(0, 1, -2), -10);
        c.status(x, 7, 1, 0);
        x = Check.told("common;cosy 0 0 1;hunted 0;hunted 5;");
        x.hour(1);
        c.due("two(0, 1, -1): one is under", x.two(0, 1, -1), -3);
        c.due("two(1, 0, -1)", x.two(1, 0, -1), -3);
        pairs(Check.told("common;hunted 0;hunted 5;"), 0, 1);
        // alike far: any of the cosies rests, as each holds both
        pairs(Check.told("common;cosy 0 1 2;cosy 0 6 2;hunted 0;hunted 0;"), 0, 1, 0, 1, 5, 6);
        // as far, one place each: two pairs
        pairs(Check.told("common;cosy 0 1 1;cosy 0 6 1;hunted 0;hunted 0;"), 0, 1, 1, 5);
        pairs(Check.told("common;cosy 0 1 1;hunted 0;hunted 0;"), 0, 1, 0);
    }

    private static void twoByRoom() {
        // no room anywhere: 0 less 9 in the own cell, 0 less 4 five cells off, so the far one is chosen
        pairs(Check.told("common;cosy 3 0 1;cosy 3 5 1;hunted 0;hunted 0;"), 0, 1, 6);
        // as far as can be: room is yet 1 and none 0 less 1
        pairs(Check.told("common;cosy 3 23 1;cosy 1 23 1;hunted 0;hunted 0;"), 0, 1, 6);
        // a cosy with one under it holds just one more
        CosyAsylum x = Check.told("common;cosy 0 7 2;cosy 0 23 4;hunted 7;hunted 9;hunted 8;");
        x.hour(1);
        c.due("of(0, 5)", x.of(0, 5), 1);
        c.due("about(1, 0)", x.about(1, 0), 8);
        c.due("about(2, 0)", x.about(2, 0), 7);
        pairs(x, 1, 2, 1);
        pairs(x, 2, 1, 5);
        // a cosy with as many under it as it holds
        x = Check.told("common;cosy 0 7 1;cosy 0 23 4;hunted 7;hunted 9;hunted 8;");
        x.hour(1);
        pairs(x, 1, 2, 6);
        // both hold more than one more
        pairs(Check.told("common;cosy 1 7 1;cosy 0 23 4;hunted 9;hunted 8;"), 0, 1, 0);
        // the fifth cosy: 5 i and j
        pairs(Check.told("common;cosy 3 0 1;cosy 3 0 1;cosy 3 0 1;cosy 1 23 1;cosy 1 22 1;hunted 23;hunted 22;"), 0, 1, 19);
        pairs(Check.told("common;cosy 3 0 1;cosy 3 0 1;cosy 3 0 1;cosy 1 23 1;cosy 1 22 1;hunted 22;hunted 22;"), 0, 1, 24);
    }

    private static void rain() {
        c.promise(28);
        CosyAsylum x = Check.told("common;cosy 1 7 4;hunted 7;hunted 7;hunted 7;hunted 0;hunted 7;hunted 7;");
        c.due("rain(5): nobody under", x.rain(5), 1);
        c.due("part(0)", x.part(0), 0);
        c.due("part(1)", x.part(1), 1);
        x.hour(1);
        int[] above = {5, 9, 4, 7, 3, 5, 2, 3, 1, 1, 0}, below = {1, 2, 1, 2, 1, 2, 1, 2, 1, 2, 1};
        for (int i = 0; i <= 10; i++) {
            c.due("rain(" + i + ")", x.rain(i), 1);
            c.due("part(0)", x.part(0), above[i]);
            c.due("part(1)", x.part(1), below[i]);
        }
        x.rain(1);
        c.due("rain(-1)", x.rain(-1), -2);
        c.due("rain(11)", x.rain(11), -2);
        c.due("part(0)", x.part(0), 9);
        c.due("count(5): nobody is let go", x.count(5), 5);
        c.status(x, 2, 0, 0);
        x = Check.told("common;cosy 0 7 1;hunted 7;");
        x.hour(1);
        int[] ones = {1, 9, 4, 7, 3, 1, 2, 3, 1, 1, 0}, tens = {1, 10, 5, 10, 5, 2, 5, 10, 5, 10, 1};
        for (int i = 0; i <= 10; i++) {
            x.rain(i);
            c.due("rain(" + i + "), part(0)", x.part(0), ones[i]);
            c.due("rain(" + i + "), part(1)", x.part(1), tens[i]);
        }
    }

    private static void years() {
        c.promise(29);
        // by the seed 0 the cells 0, 12, 4, 13, 18, 7 are drawn; the sheriff takes all but the one at the cosy
        CosyAsylum x = Check.told("common;cosy 0 0 1;hunted 5;sheriff 0;");
        long ahead = x.digest();
        int[] taken = {0, 0, 1, 2, 3, 4, 5};
        for (int n = 0; n < taken.length; n++) {
            c.due("years(0, " + n + ")", x.years(0, n), taken[n]);
        }
        c.due("digest()", x.digest(), ahead);
        c.due("years(-1, 1)", x.years(-1, 1), -2);
        c.due("years(1000000, 1)", x.years(1000000, 1), -2);
        c.due("years(0, -1)", x.years(0, -1), -2);
        c.due("years(0, 31)", x.years(0, 31), -2);
        c.status(x, 4, 0, 0);
        // each of two is drawn in its turn: 0 and 12, 4 and 13, 18 and 7
        x = Check.told("common;cosy 0 12 1;cosy 0 13 1;cosy 0 7 1;hunted 5;hunted 5;sheriff 4;");
        // year 1: 0 goes to 7 by 6, the second is under in 12; year 2: 0 is taken, 1 under; year 3: 18 gets under 12, 7 is under
        c.due("years(0, 1)", x.years(0, 1), 0);
        c.due("years(0, 2)", x.years(0, 2), 1);
        c.due("years(0, 3)", x.years(0, 3), 1);
        // a year has nine hours: the cosy lets go behind hour 9 or 8, and none of that wear stays for the next year
        c.due("years(0, 1)", Check.told("common;cosy 0 0 1;wear 0 1;hunted 5;sheriff 0;").years(0, 1), 0);
        c.due("years(0, 1)", Check.told("common;cosy 0 0 1;wear 0 2;hunted 5;sheriff 0;").years(0, 1), 1);
        // the one that is taken or under a cosy now is free in each year
        x = Check.told("common;hunted 7;sheriff 22;");
        c.due("years(999999, 30)", x.years(999999, 30), 30);
        x.hour(30);
        c.due("about(0, 2)", x.about(0, 2), 1);
        c.due("years(1, 30)", x.years(1, 30), 30);
        // the numbers drawn, by what was worked out apart from the class
        x = Check.told("common;cosy 1 8 1;cosy 2 20 1;hunted 0;hunted 0;hunted 0;hunted 0;sheriff 3;sheriff 22;");
        int[] seeds = {0, 1, 7, 4242, 65536, 999999}, drawn = {77, 86, 77, 83, 80, 78};
        for (int i = 0; i < seeds.length; i++) {
            c.due("years(" + seeds[i] + ", 30)", x.years(seeds[i], 30), drawn[i]);
        }
        x = Check.told("common;cosy 0 23 4;wear 0 29;hunted 23;sheriff 0;");
        x.hour(1);
        c.due("about(0, 1)", x.about(0, 1), 0);
        x.carry(0, 5);
        x.sheriff(0);
        c.due("years(0, 1): it is drawn to the sheriffs in 0", x.years(0, 1), 1);
    }
}

/** Promises 16 to 21: then, fate, when, place, run, stitches. */
public final class WhatComesTest {
    private static final Check c = new Check("WhatComesTest");

    public static void main(String[] args) {
        thenAndFate();
        when();
        place();
        run();
        runsOfFourHours();
        notOffTheCommon();
        stitches();
        c.finish();
    }

    private static void thenAndFate() {
        c.promise(16);
        CosyAsylum x = Check.told("common;cosy 0 9 1;hunted 6;hunted 22;hunted 5;sheriff 0;");
        long ahead = x.digest();
        int[][] cells = {{6, 22, 5}, {7, 16, 4}, {8, 15, 3}, {8, 9, 9}, {8, 9, 9}};
        c.due("then(0, 0, 0)", x.then(0, 0, 0), 6);
        c.due("then(0, 1, 0)", x.then(0, 1, 0), 7);
        c.due("then(0, 2, 0)", x.then(0, 2, 0), 8);
        for (int p = 0; p < 3; p++) {
            for (int m = 0; m < 3; m++) {
                c.due("then(" + p + ", " + m + ", 0)", x.then(p, m, 0), cells[m][p]);
                c.due("then(" + p + ", " + m + ", 1)", x.then(p, m, 1), -1);
            }
        }
        c.due("digest(): nothing is changed", x.digest(), ahead);
        CosyAsylum y = new CosyAsylum();
        y.cosy(1, 9, 2);
        y.hunted(10);
        y.hunted(0);
        y.sheriff(6);
        // the sheriff goes along below the second, and is at the cosy's cell one hour ahead of it
        int[][] due = {{10, -1, 0, 0, -1, 0}, {9, -1, 0, 1, -1, 0}, {9, 0, 0, 2, -1, 0}, {9, 0, 0, 3, -1, 0},
            {9, 0, 0, 9, -1, 1}, {9, 0, 0, 9, -1, 1}};
        for (int m = 0; m < due.length; m++) {
            for (int i = 0; i < 6; i++) {
                c.due("then(" + i / 3 + ", " + m + ", " + i % 3 + ")", y.then(i / 3, m, i % 3), due[m][i]);
            }
        }
        c.due("then(0, 41, 0)", y.then(0, 41, 0), -10);
        c.due("then(0, -1, 0)", y.then(0, -1, 0), -10);
        c.due("then(0, 0, 3)", y.then(0, 0, 3), -10);
        c.due("then(0, 0, -1)", y.then(0, 0, -1), -10);
        c.due("then(2, 0, 0)", y.then(2, 0, 0), -10);
        c.due("then(-1, 0, 0)", y.then(-1, 0, 0), -10);
        c.due("then(1, 40, 1)", y.then(1, 40, 1), y.then(1, 39, 1));
        c.status(y, 6, 0, 0);
        c.promise(17);
        c.due("fate(0, 2)", y.fate(0, 2), 0);
        c.due("fate(2, 2)", y.fate(2, 2), 1);
        c.due("fate(3, 0)", y.fate(3, 0), 0);
        c.due("fate(5, 2)", y.fate(5, 2), 1);
        c.due("fate(5, 0)", y.fate(5, 0), 1);
        c.due("fate(5, 1)", y.fate(5, 1), 2);
        CosyAsylum z = Check.told("common;hunted 0;hunted 3;hunted 3;sheriff 1;");
        int[] taken = {0, 1, 1, 1, 3, 3}, who = {0, 1, 1, 1, 7, 7};
        for (int m = 0; m < taken.length; m++) {
            c.due("fate(" + m + ", 0)", z.fate(m, 0), taken[m]);
            c.due("fate(" + m + ", 1)", z.fate(m, 1), who[m]);
            c.due("fate(" + m + ", 2)", z.fate(m, 2), 0);
        }
        c.due("fate(40, 0)", z.fate(40, 0), 3);
        c.due("fate(41, 0)", z.fate(41, 0), -2);
        c.due("fate(-1, 0)", z.fate(-1, 0), -2);
        c.due("fate(0, 3)", z.fate(0, 3), -2);
        c.due("fate(0, -1)", z.fate(0, -1), -2);
        c.status(z, 4, 0, 0);
        beyondTheLastHour();
    }

    private static void beyondTheLastHour() {
        CosyAsylum x = new CosyAsylum();
        for (int i = 0; i < 34; i++) {
            x.hour(30);
        }
        x.hunted(4);
        x.sheriff(0);
        c.due("count(3)", x.count(3), 999);
        c.due("fate(4, 0)", x.fate(4, 0), 1);
        c.due("when(0)", x.when(0), 4);
        c.due("hour(30)", x.hour(30), 0);
        c.due("count(3)", x.count(3), 999);
        c.due("years(7, 30)", x.years(7, 30), Check.told("common;hunted 4;sheriff 0;").years(7, 30));
        c.due("years(7, 30), somebody", x.years(7, 30) > 0 ? 1 : 0, 1);
        x.cosy(0, 3, 1);
        c.due("run(0, -1)", x.run(0, -1), 2);
        c.due("place(0, 2)", x.place(0, 2), 3);
    }

    private static void when() {
        c.promise(18);
        CosyAsylum x = Check.told("common;hunted 0;hunted 23;hunted 23;sheriff 0;");
        c.due("when(0)", x.when(0), 1);
        c.due("when(1)", x.when(1), 9);
        c.due("when(2)", x.when(2), 9);
        c.due("when(3)", x.when(3), -2);
        c.due("when(-1)", x.when(-1), -2);
        x.hour(1);
        c.due("when(0): taken now, too", x.when(0), -1);
        c.due("when(1)", x.when(1), 8);
        c.status(x, 2, 0, 0);
        c.due("when(0): nobody comes", Check.told("common;hunted 0;").when(0), -1);
        // under a plain one of size 1 from hour 1 on, let go behind hour h, taken in the hour behind that one that it is under no more
        CosyAsylum y = Check.told("common;cosy 0 0 1;wear 0 0;hunted 0;sheriff 0;");
        c.due("when(0): it holds nobody from hour 10 on", y.when(0), 11);
        // wool wears as plain, holds by half: it lets go behind hour 20
        c.due("when(0)", Check.told("common;cosy 2 0 1;hunted 0;sheriff 0;").when(0), 21);
        // of size 2 behind hour 40: that is too late
        c.due("when(0)", Check.told("common;cosy 2 0 2;hunted 0;sheriff 0;").when(0), -1);
        c.due("when(0)", Check.told("common;cosy 2 0 2;wear 0 1;hunted 0;sheriff 0;").when(0), 40);
    }

    private static void place() {
        c.promise(19);
        CosyAsylum x = Check.told("common;cosy 0 23 1;hunted 0;sheriff 1;");
        long ahead = x.digest();
        c.due("place(0, 0): all alike, the least", x.place(0, 0), 0);
        c.due("place(0, 1): under at once", x.place(0, 1), 0);
        c.due("place(0, 20)", x.place(0, 20), 0);
        c.due("digest()", x.digest(), ahead);
        // nobody is taken, all cells alike but the one where it is under most
        c.due("place(0, 1)", Check.told("common;cosy 1 0 1;hunted 14;hunted 20;hunted 20;").place(0, 1), 20);
        c.due("place(0, 2): both from 20, or 14 and one of 20", Check.told("common;cosy 1 0 1;hunted 14;hunted 20;hunted 20;").place(0, 2), 14);
        // fewest taken goes ahead of most under: carried off with the two under it, or at the one that is hunted
        x = Check.told("common;cosy 0 5 2;hunted 5;hunted 5;");
        x.hour(2);
        x.hunted(12);
        c.due("place(0, 3)", x.place(0, 3), 0);
        x.sheriff(12);
        c.due("place(0, 1)", x.place(0, 1), 0);
        c.due("place(-1, 0)", x.place(-1, 0), -2);
        c.due("place(1, 0)", x.place(1, 0), -2);
        c.due("place(0, -1)", x.place(0, -1), -2);
        c.due("place(0, 21)", x.place(0, 21), -2);
        c.status(x, 4, 0, 0);
        x = Check.told("common;cosy 3 2 4;cosy 0 3 1;hunted 15;sheriff 16;");
        c.due("place(1, 1): under there at once", x.place(1, 1), 15);
        c.due("place(0, 4): a grey one helps nobody", x.place(0, 4), 0);
    }

    private static void row(CosyAsylum x, int p, int... row) {
        c.due("run(" + p + ", -1)", x.run(p, -1), row.length);
        for (int i = 0; i < row.length; i++) {
            c.due("run(" + p + ", " + i + ")", x.run(p, i), row[i]);
        }
        c.due("run(" + p + ", " + row.length + ")", x.run(p, row.length), -5);
        c.due("run(" + p + ", most)", x.run(p, Integer.MAX_VALUE), -5);
    }

    private static void run() {
        c.promise(20);
        CosyAsylum x = Check.told("common;cosy 0 8 1;hunted 8;hunted 7;hunted 2;hunted 9;hunted 14;hunted 0;");
        long ahead = x.digest();
        row(x, 0, 4);
        c.due("run(1, -1): another is there first, and stays", x.run(1, -1), -1);
        c.due("run(1, 3): none, whatever i is", x.run(1, 3), -1);
        c.due("run(1, -2)", x.run(1, -2), -10);
        c.due("run(6, -1)", x.run(6, -1), -10);
        c.due("run(-1, -1)", x.run(-1, -1), -10);
        c.due("digest()", x.digest(), ahead);
        c.status(x, 3, 0, 0);
        row(Check.told("common;cosy 0 8 1;hunted 7;"), 0, 0, 4);
        row(Check.told("common;cosy 0 8 1;hunted 2;"), 0, 1, 4);
        row(Check.told("common;cosy 0 8 1;hunted 9;"), 0, 2, 4);
        row(Check.told("common;cosy 0 8 1;hunted 14;"), 0, 3, 4);
        // of like ones the first row, rising: the column ahead of the row, though a step as told would do the same
        row(Check.told("common;cosy 0 8 1;hunted 1;"), 0, 0, 1, 4);
        row(Check.told("common;cosy 0 8 1;hunted 15;"), 0, 2, 3, 4);
        // the sheriff would be in 8 ahead of it, went it by 2; by 7 it draws the sheriff off
        row(Check.told("common;cosy 0 8 1;hunted 1;sheriff 14;"), 0, 1, 0, 4);
        x = Check.told("common;cosy 0 8 1;hunted 8;hunted 0;sheriff 0;");
        x.hour(1);
        c.due("run(0, -1): under", x.run(0, -1), -3);
        c.due("run(1, 0): taken", x.run(1, 0), -3);
        c.status(x, 0, 2, 0);
        x = Check.told("common;hunted 0;sheriff 0;");
        c.due("run(0, -1): no cosy", x.run(0, -1), -1);
        x.hour(1);
        c.due("run(0, 0): taken", x.run(0, 0), -3);
        c.due("run(0, -2): BAD goes ahead of NO", x.run(0, -2), -10);
        c.status(x, 1, 1, 0);
        c.due("run(0, -1): full from the first hour on", Check.told("common;cosy 0 8 1;wear 0 10;hunted 8;").run(0, -1), -1);
        // under in hour 1, but let go at once as wear comes to 10: it is not under behind any of the hours
        c.due("run(0, -1): let go in the same hour", Check.told("common;cosy 0 8 1;wear 0 9;hunted 8;").run(0, -1), -1);
        // choice 4 gets it under the cosy told alone, which is the first of like ones
        x = Check.told("common;cosy 1 8 1;cosy 2 8 1;hunted 8;");
        row(x, 0, 4);
    }

    private static void runsOfFourHours() {
        row(Check.told("common;cosy 0 3 1;hunted 0;"), 0, 0, 0, 0, 4);
        row(Check.told("common;cosy 0 18 1;hunted 0;"), 0, 1, 1, 1, 4);
        row(Check.told("common;cosy 0 2 1;hunted 5;"), 0, 2, 2, 2, 4);
        row(Check.told("common;cosy 0 0 1;hunted 18;"), 0, 3, 3, 3, 4);
        row(Check.told("common;cosy 0 13 1;hunted 0;"), 0, 0, 1, 1, 4);
        c.due("run(0, -1): five hours", Check.told("common;cosy 0 4 1;hunted 0;").run(0, -1), -1);
        c.due("run(0, -1): five hours", Check.told("common;cosy 0 14 1;hunted 0;").run(0, -1), -1);
    }

    /** Ways that would lead under a cosy, or there ahead of the first row, if one could step off the common. */
    private static void notOffTheCommon() {
        c.due("by the next column", Check.told("common;cosy 0 19 2;cosy 2 11 2;hunted 23;sheriff 10;").run(0, -1), -1);
        c.due("by the column ahead", Check.told("common;cosy 0 11 2;cosy 0 13 2;hunted 19;sheriff 22;sheriff 13;").run(0, -1), -1);
        c.due("by the row ahead", Check.told("common;cosy 2 1 1;hunted 0;hunted 3;hunted 15;hunted 11;sheriff 8;sheriff 7;").run(0, -1), -1);
        row(Check.told("common;cosy 2 15 1;hunted 21;hunted 5;sheriff 9;sheriff 17;"), 0, 2, 0, 3, 4);
        row(Check.told("common;cosy 2 7 2;cosy 1 17 1;hunted 5;sheriff 21;"), 0, 1, 1, 4);
        row(Check.told("common;cosy 1 20 1;hunted 18;"), 0, 0, 0, 4);
        row(Check.told("common;cosy 1 3 1;hunted 5;"), 0, 2, 2, 4);
    }

    private static void stitches() {
        c.promise(21);
        CosyAsylum x = Check.told("common;cosy 0 0 3;wear 0 25;cosy 4 0 2;wear 1 40;cosy 3 0 4;cosy 5 0 4;wear 3 40;cosy 2 0 2;wear 4 19;");
        long ahead = x.digest();
        int[] plain = {0, 0, 6, 16, -1, -1}, knob = {0, 0, 21, 31, 40, 40}, grey = {0, -1, -1}, old = {0, 0, 1, 21, -1}, wool = {0, 0, 0, -1};
        int[][] due = {plain, knob, grey, old, wool};
        for (int k = 0; k < due.length; k++) {
            for (int n = 0; n < due[k].length; n++) {
                c.due("stitches(" + k + ", " + n + ")", x.stitches(k, n), due[k][n]);
            }
        }
        c.due("stitches(1, 6)", x.stitches(1, 6), -1);
        c.due("stitches(0, 9)", x.stitches(0, 9), -1);
        c.due("stitches(0, 10)", x.stitches(0, 10), -2);
        c.due("stitches(0, -1)", x.stitches(0, -1), -2);
        c.due("stitches(5, 0)", x.stitches(5, 0), -2);
        c.due("stitches(-1, 0)", x.stitches(-1, 0), -2);
        c.due("digest()", x.digest(), ahead);
        c.status(x, 4, 0, 0);
    }
}

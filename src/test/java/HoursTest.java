/** Promises 9 to 15: hour, darn, carry, undo, of, about, where. */
public final class HoursTest {
    private static final Check c = new Check("HoursTest");

    public static void main(String[] args) {
        kindsHoldAndWear();
        theHuntedGo();
        sheriffsGo();
        cosiesLetGo();
        hour();
        darn();
        carry();
        undo();
        of();
        about();
        where();
        c.finish();
    }

    /** What each kind holds by size and wear, written out from the document's words. */
    private static void kindsHoldAndWear() {
        c.promise(13);
        int[] wears = {0, 1, 9, 10, 19, 20, 39, 40};
        int[][] ofSizeTwo = {{2, 2, 2, 1, 1, 0, 0, 0}, {3, 3, 3, 2, 2, 1, 1, 1}, {2, 2, 2, 2, 2, 1, 1, 0},
            {0, 0, 0, 0, 0, 0, 0, 0}, {5, 3, 3, 2, 2, 1, 1, 1}, {1, 1, 1, 1, 1, 0, 0, 0}};
        for (int kind = 0; kind < 6; kind++) {
            for (int i = 0; i < wears.length; i++) {
                CosyAsylum x = Check.told("common;cosy " + kind + " 0 2;wear 0 " + wears[i] + ";");
                c.due("kind " + kind + ", wear " + wears[i] + ": of(0, 4)", x.of(0, 4), ofSizeTwo[kind][i]);
            }
        }
        int[] fresh = {4, 5, 4, 0, 7, 3}, worn = {0, 1, 2, 0, 1, 1};
        for (int kind = 0; kind < 6; kind++) {
            c.due("kind " + kind, Check.told("common;cosy " + kind + " 0 4;").of(0, 4), fresh[kind]);
            c.due("kind " + kind, Check.told("common;cosy " + kind + " 0 4;wear 0 40;").of(0, 4), worn[kind]);
        }
        c.promise(9);
        int[] wornByThree = {3, 3, 3, 0, 6, 4}, wornByNobody = {0, 0, 0, 0, 0, 1};
        for (int kind = 0; kind < 6; kind++) {
            CosyAsylum x = Check.told("common;cosy " + kind + " 8 4;hunted 8;hunted 8;hunted 8;");
            x.hour(1);
            c.due("kind " + kind + ", three under: of(0, 3)", x.of(0, 3), wornByThree[kind]);
            x = Check.told("common;cosy " + kind + " 8 4;");
            x.hour(1);
            c.due("kind " + kind + ", nobody under: of(0, 3)", x.of(0, 3), wornByNobody[kind]);
        }
        CosyAsylum x = Check.told("common;cosy 4 8 4;wear 0 39;hunted 8;");
        x.hour(1);
        c.due("wear is 40 at most: of(0, 3)", x.of(0, 3), 40);
        x.hour(30);
        c.due("of(0, 3)", x.of(0, 3), 40);
    }

    private static void goesTo(String common, int p, int... cells) {
        CosyAsylum x = Check.told(common);
        for (int i = 0; i < cells.length; i++) {
            x.hour(1);
            c.due(common + " hour " + (i + 1) + ": about(" + p + ", 0)", x.about(p, 0), cells[i]);
        }
    }

    private static void theHuntedGo() {
        c.promise(9);
        // columns first where they are as far or further off, rows else; then back and forth on the diagonal
        goesTo("common;cosy 0 23 1;hunted 0;", 0, 1, 2, 3, 9, 10, 16, 17, 23, 23);
        goesTo("common;cosy 0 0 1;hunted 23;", 0, 22, 21, 20, 14, 13, 7, 6, 0, 0);
        goesTo("common;cosy 0 19 1;hunted 0;", 0, 6, 12, 13, 19);
        goesTo("common;cosy 0 0 1;hunted 19;", 0, 13, 7, 6, 0);
        goesTo("common;cosy 0 18 1;hunted 5;", 0, 4, 3, 2, 8, 7, 13, 12, 18);
        goesTo("common;cosy 3 1 4;hunted 0;", 0, 0, 0);
        goesTo("common;hunted 9;", 0, 9);
        // of like ones the first; the nearer one; one that holds nobody is passed over
        goesTo("common;cosy 0 4 1;cosy 0 0 1;hunted 2;", 0, 3);
        goesTo("common;cosy 0 5 1;cosy 0 0 1;hunted 2;", 0, 1);
        goesTo("common;cosy 3 3 4;cosy 0 0 1;hunted 2;", 0, 1);
        // the second finds no room behind the first and goes elsewhere
        CosyAsylum x = Check.told("common;cosy 0 2 1;cosy 0 5 1;hunted 2;hunted 2;");
        x.hour(1);
        c.due("about(0, 1)", x.about(0, 1), 0);
        c.due("about(1, 1)", x.about(1, 1), -1);
        c.due("about(1, 0)", x.about(1, 0), 3);
        x.hour(1);
        x.hour(1);
        c.due("about(1, 1)", x.about(1, 1), -1);
        c.due("about(1, 0)", x.about(1, 0), 5);
        x.hour(1);
        c.due("about(1, 1)", x.about(1, 1), 1);
        c.due("count(5)", x.count(5), 2);
    }

    private static void sheriffsGo() {
        c.promise(9);
        CosyAsylum x = Check.told("common;hunted 23;sheriff 0;sheriff 13;");
        int[] first = {1, 2, 3, 9}, second = {14, 15, 16, 17};
        for (int i = 0; i < 4; i++) {
            c.due("hour(1)", x.hour(1), 0);
            c.due("where(0)", x.where(0), first[i]);
            c.due("where(1)", x.where(1), second[i]);
        }
        c.due("hour(1)", x.hour(1), 1);
        c.due("where(0): it went ahead of the second", x.where(0), 10);
        c.due("where(1)", x.where(1), 23);
        c.due("about(0, 2)", x.about(0, 2), 1);
        c.due("about(0, 0)", x.about(0, 0), 23);
        c.due("hour(1)", x.hour(1), 1);
        c.due("where(0): nobody is free", x.where(0), 10);
        // of like ones the first; all in the cell are taken; the second sheriff no more looks for those
        x = Check.told("common;hunted 1;hunted 6;hunted 1;sheriff 0;sheriff 0;");
        c.due("hour(1)", x.hour(1), 3);
        c.due("where(0)", x.where(0), 1);
        c.due("where(1)", x.where(1), 6);
        x = Check.told("common;hunted 1;hunted 6;sheriff 0;");
        c.due("hour(1)", x.hour(1), 1);
        c.due("where(0)", x.where(0), 1);
        x = Check.told("common;hunted 6;hunted 1;sheriff 0;");
        c.due("hour(1)", x.hour(1), 1);
        c.due("where(0)", x.where(0), 6);
        // one under a cosy is not taken, one beside it is
        x = Check.told("common;cosy 0 8 1;hunted 8;hunted 8;sheriff 8;");
        c.due("hour(1)", x.hour(1), 1);
        c.due("fate(0, 1)", x.fate(0, 1), 2);
        c.due("about(0, 1)", x.about(0, 1), 0);
        // the hunted go ahead of the sheriffs: this one steps off in time, and is behind one hour in the next cell
        x = Check.told("common;cosy 0 0 1;hunted 2;sheriff 3;");
        c.due("hour(1)", x.hour(1), 0);
        c.due("where(0)", x.where(0), 2);
    }

    private static void cosiesLetGo() {
        c.promise(9);
        CosyAsylum x = Check.told("common;cosy 0 8 2;wear 0 8;hunted 8;hunted 7;hunted 8;sheriff 23;");
        x.hour(1);
        c.due("of(0, 5): two held, the last of them let go", x.of(0, 5), 1);
        c.due("of(0, 3)", x.of(0, 3), 10);
        c.due("about(2, 1)", x.about(2, 1), -1);
        c.due("about(2, 0)", x.about(2, 0), 8);
        // a knob that is new holds 5, of wear 10 it holds 2: three are let go at once, and are not taken in that hour
        x = Check.told("common;cosy 4 8 2;hunted 8;hunted 8;hunted 8;hunted 8;hunted 8;sheriff 8;");
        c.due("hour(1)", x.hour(1), 0);
        c.due("of(0, 5)", x.of(0, 5), 3);
        c.due("of(0, 3)", x.of(0, 3), 10);
        c.due("of(0, 4)", x.of(0, 4), 2);
    }

    private static void hour() {
        c.promise(9);
        CosyAsylum x = new CosyAsylum();
        c.due("hour(0)", x.hour(0), -2);
        c.due("hour(31)", x.hour(31), -2);
        c.due("hour(-1)", x.hour(-1), -2);
        c.counts(x, 0, 0, 0, 0, 0, 0, 0, 0, 0);
        c.status(x, 3, 0, 0);
        x.cosy(5, 0, 4);
        for (int i = 0; i < 33; i++) {
            c.due("hour(30)", x.hour(30), 0);
        }
        c.due("count(3)", x.count(3), 990);
        c.due("of(0, 3)", x.of(0, 3), 40);
        x.darn(0, 40);
        c.due("hour(8)", x.hour(8), 0);
        c.due("count(3)", x.count(3), 998);
        c.due("hour(30)", x.hour(30), 0);
        c.due("count(3)", x.count(3), 999);
        c.due("of(0, 3): one hour more", x.of(0, 3), 9);
        c.due("hour(1)", x.hour(1), 0);
        c.due("count(3)", x.count(3), 999);
        c.due("of(0, 3): none goes by", x.of(0, 3), 9);
        c.due("then hours go beyond 999: fate(5, 0)", x.fate(5, 0), 0);
        c.due("undo(): also if none went by", x.undo(), 999);
        c.due("undo()", x.undo(), 998);
        c.due("of(0, 3)", x.of(0, 3), 8);
    }

    private static void darn() {
        c.promise(10);
        CosyAsylum x = Check.told("common;cosy 0 0 4;wear 0 40;cosy 1 1 1;wear 1 7;");
        c.due("darn(-1, 1)", x.darn(-1, 1), -2);
        c.due("darn(2, 1)", x.darn(2, 1), -2);
        c.due("darn(0, 0)", x.darn(0, 0), -2);
        c.due("darn(0, 41)", x.darn(0, 41), -2);
        c.due("count(7)", x.count(7), 0);
        c.status(x, 4, 0, 0);
        c.due("darn(0, 1)", x.darn(0, 1), 39);
        c.due("darn(1, 8)", x.darn(1, 8), 0);
        c.due("darn(1, 40)", x.darn(1, 40), 0);
        c.due("darn(0, 40)", x.darn(0, 40), 0);
        c.due("count(7)", x.count(7), 4);
        x.undo();
        c.due("of(0, 3)", x.of(0, 3), 39);
    }

    private static void carry() {
        c.promise(11);
        CosyAsylum x = Check.told("common;cosy 0 7 2;cosy 0 23 1;hunted 7;hunted 23;hunted 7;hunted 7;");
        x.hour(1);
        c.due("carry(-1, 0)", x.carry(-1, 0), -2);
        c.due("carry(2, 0)", x.carry(2, 0), -2);
        c.due("carry(0, -1)", x.carry(0, -1), -2);
        c.due("carry(0, 24)", x.carry(0, 24), -2);
        c.due("count(7)", x.count(7), 1);
        c.status(x, 4, 0, 0);
        c.due("carry(0, 23)", x.carry(0, 23), 7);
        c.due("of(0, 1)", x.of(0, 1), 23);
        int[] cells = {23, 23, 23, 7};
        for (int p = 0; p < 4; p++) {
            c.due("about(" + p + ", 0)", x.about(p, 0), cells[p]);
        }
        c.due("carry(0, 0)", x.carry(0, 0), 23);
        c.due("carry(0, 0)", x.carry(0, 0), 0);
        c.due("count(7)", x.count(7), 4);
        c.due("about(1, 0), under another", x.about(1, 0), 23);
        c.due("about(2, 0)", x.about(2, 0), 0);
    }

    private static void undo() {
        c.promise(12);
        CosyAsylum x = Check.told("common;cosy 5 7 3;hunted 7;hunted 0;hunted 23;sheriff 22;");
        c.due("undo()", x.undo(), -3);
        long start = x.digest();
        x.hour(1);
        long second = x.digest();
        x.carry(0, 20);
        x.darn(0, 1);
        x.note(0, 0, 1);
        c.due("undo(): the darning", x.undo(), 1);
        c.due("of(0, 3)", x.of(0, 3), 2);
        c.due("of(0, 1)", x.of(0, 1), 20);
        c.due("undo(): the carrying", x.undo(), 1);
        c.due("of(0, 1)", x.of(0, 1), 7);
        c.due("about(0, 0)", x.about(0, 0), 7);
        c.due("count(6): notes stay", x.count(6), 1);
        x.forget();
        c.due("digest()", x.digest(), second);
        c.due("undo(): the hour", x.undo(), 0);
        c.due("digest()", x.digest(), start);
        c.due("about(2, 2)", x.about(2, 2), 0);
        c.due("undo()", x.undo(), -3);
        c.status(x, 0, 2, 0);
        for (int i = 1; i <= 10; i++) {
            x.hour(i);
            c.due("count(7)", x.count(7), Math.min(i, 8));
        }
        int[] hours = {45, 36, 28, 21, 15, 10, 6, 3};
        for (int hour : hours) {
            c.due("undo()", x.undo(), hour);
        }
        c.due("undo()", x.undo(), -3);
        x.hour(1);
        x.undo();
        x.hour(2);
        c.due("undo()", x.undo(), 3);
    }

    private static void of() {
        c.promise(13);
        CosyAsylum x = Check.told("common;cosy 2 7 3;cosy 4 11 1;wear 0 25;hunted 7;hunted 0;hunted 7;hunted 11;");
        x.hour(1);
        int[][] due = {{2, 7, 3, 27, 2, 5}, {4, 11, 1, 2, 2, 8}};
        for (int k = 0; k < 2; k++) {
            for (int what = 0; what < 6; what++) {
                c.due("of(" + k + ", " + what + ")", x.of(k, what), due[k][what]);
            }
        }
        c.due("of(0, -1)", x.of(0, -1), -2);
        c.due("of(0, 6)", x.of(0, 6), -2);
        c.due("of(-1, 0)", x.of(-1, 0), -2);
        c.due("of(2, 0)", x.of(2, 0), -2);
        c.status(x, 4, 0, 0);
    }

    private static void about() {
        c.promise(14);
        CosyAsylum x = Check.told("common;cosy 0 7 1;cosy 0 9 1;hunted 9;hunted 16;sheriff 17;");
        x.hour(1);
        int[][] due = {{9, 1, 0}, {15, -1, 0}};
        for (int p = 0; p < 2; p++) {
            for (int what = 0; what < 3; what++) {
                c.due("about(" + p + ", " + what + ")", x.about(p, what), due[p][what]);
            }
        }
        c.due("about(0, -1)", x.about(0, -1), -10);
        c.due("about(0, 3)", x.about(0, 3), -10);
        c.due("about(-1, 0)", x.about(-1, 0), -10);
        c.due("about(2, 0)", x.about(2, 0), -10);
        c.status(x, 4, 0, 0);
        x = Check.told("common;hunted 9;sheriff 9;");
        x.hour(1);
        c.due("about(0, 1)", x.about(0, 1), -1);
        c.due("about(0, 2)", x.about(0, 2), 1);
    }

    private static void where() {
        c.promise(15);
        CosyAsylum x = Check.told("common;sheriff 0;sheriff 23;");
        c.due("where(0)", x.where(0), 0);
        c.due("where(1)", x.where(1), 23);
        c.due("where(2)", x.where(2), -2);
        c.due("where(-1)", x.where(-1), -2);
        c.status(x, 2, 0, 0);
    }
}

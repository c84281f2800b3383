/** Promises 1 to 8: a new object, common, cosy, hunted, sheriff, type, clear, read. */
public final class ACommonTest {
    private static final Check c = new Check("ACommonTest");

    public static void main(String[] args) {
        newObject();
        common();
        cosy();
        hunted();
        sheriff();
        typeAndClear();
        read();
        faults();
        c.finish();
    }

    private static void newObject() {
        c.promise(1);
        CosyAsylum x = new CosyAsylum();
        c.counts(x, 0, 0, 0, 0, 0, 0, 0, 0, 0);
        c.due("part(0)", x.part(0), 0);
        c.due("part(1)", x.part(1), 1);
        c.due("digest()", x.digest(), Check.digestOf(0, 0, 0, 0, 0, 0, 0, 0, 0, 0, 1));
        c.status(x, 0, 0, 0);
        c.due("undo()", x.undo(), -3);
        c.due("from(0)", x.from(0), -3);
        c.due("read()", x.read(), -10);
        c.due("where(0)", x.where(0), -2);
        c.status(x, 1, 2, 0);
    }

    private static void common() {
        c.promise(2);
        CosyAsylum x = new CosyAsylum();
        c.due("common()", x.common(), 0);
        x.cosy(0, 3, 2);
        x.cosy(5, 3, 2);
        x.hunted(3);
        x.sheriff(0);
        x.note(0, 1, 1);
        x.image(1);
        x.type(65);
        x.hour(2);
        x.rain(5);
        x.undo();
        x.hour(31);
        x.hour(2);
        c.counts(x, 2, 1, 1, 2, 0, 1, 1, 1, 1);
        c.due("common()", x.common(), 2);
        c.counts(x, 0, 0, 0, 0, 0, 0, 0, 0, 1);
        c.due("part(0)", x.part(0), 1);
        c.due("part(1)", x.part(1), 2);
        c.status(x, 1, 0, 0);
        c.due("undo()", x.undo(), -3);
        c.due("from(1)", x.from(1), 1);
        c.counts(x, 2, 1, 1, 0, 0, 0, 1, 0, 1);
        c.due("common()", x.common(), 2);
        c.due("cosy(0, 0, 1)", x.cosy(0, 0, 1), 0);
        c.due("of(0, 3)", x.of(0, 3), 0);
        c.due("hunted(0)", x.hunted(0), 0);
        x.hour(3);
        c.due("common()", x.common(), 1);
        x.cosy(0, 0, 1);
        c.due("of(0, 3): the wear of the last one there is gone", x.of(0, 3), 0);
        x.hunted(0);
        c.due("about(0, 1)", x.about(0, 1), -1);
    }

    private static void cosy() {
        c.promise(3);
        CosyAsylum x = new CosyAsylum();
        c.due("cosy(-1, 0, 1)", x.cosy(-1, 0, 1), -2);
        c.due("cosy(6, 0, 1)", x.cosy(6, 0, 1), -2);
        c.due("cosy(0, -1, 1)", x.cosy(0, -1, 1), -2);
        c.due("cosy(0, 24, 1)", x.cosy(0, 24, 1), -2);
        c.due("cosy(0, 0, 0)", x.cosy(0, 0, 0), -2);
        c.due("cosy(0, 0, 5)", x.cosy(0, 0, 5), -2);
        c.due("cosy(least)", x.cosy(Integer.MIN_VALUE, Integer.MIN_VALUE, Integer.MIN_VALUE), -2);
        c.due("cosy(most)", x.cosy(Integer.MAX_VALUE, Integer.MAX_VALUE, Integer.MAX_VALUE), -2);
        c.status(x, 8, 0, 0);
        x.hour(1);
        c.due("cosy(0, 24, 1)", x.cosy(0, 24, 1), -2);
        c.due("count(7)", x.count(7), 1);
        c.due("cosy(0, 0, 1)", x.cosy(0, 0, 1), 0);
        c.due("count(7) behind a cosy that comes", x.count(7), 0);
        c.due("cosy(5, 23, 4)", x.cosy(5, 23, 4), 1);
        c.due("cosy(5, 23, 4)", x.cosy(5, 23, 4), 2);
        c.due("cosy(3, 12, 2)", x.cosy(3, 12, 2), 3);
        c.due("cosy(2, 1, 3)", x.cosy(2, 1, 3), 4);
        int[][] due = {{0, 0, 1, 0}, {5, 23, 4, 0}, {5, 23, 4, 0}, {3, 12, 2, 0}, {2, 1, 3, 0}};
        for (int k = 0; k < 5; k++) {
            for (int what = 0; what < 4; what++) {
                c.due("of(" + k + ", " + what + ")", x.of(k, what), due[k][what]);
            }
        }
        x.hour(1);
        c.due("cosy(0, 0, 1), the 6th", x.cosy(0, 0, 1), -4);
        c.due("cosy(0, 0, 0), the 6th", x.cosy(0, 0, 0), -2);
        c.due("count(0)", x.count(0), 5);
        c.due("count(7) behind one refused", x.count(7), 1);
        c.status(x, 10, 0, 1);
    }

    private static void hunted() {
        c.promise(4);
        CosyAsylum x = new CosyAsylum();
        c.due("hunted(-1)", x.hunted(-1), -2);
        c.due("hunted(24)", x.hunted(24), -2);
        x.hour(1);
        int[] cells = {0, 23, 7, 7, 12, 5};
        for (int p = 0; p < 6; p++) {
            c.due("hunted(" + cells[p] + ")", x.hunted(cells[p]), p);
            c.due("count(7)", x.count(7), 0);
        }
        for (int p = 0; p < 6; p++) {
            c.due("about(" + p + ", 0)", x.about(p, 0), cells[p]);
            c.due("about(" + p + ", 1)", x.about(p, 1), -1);
            c.due("about(" + p + ", 2)", x.about(p, 2), 0);
        }
        x.hour(1);
        c.due("hunted(0), the 7th", x.hunted(0), -4);
        c.due("hunted(24), the 7th", x.hunted(24), -2);
        c.due("count(1)", x.count(1), 6);
        c.due("count(7) behind one refused", x.count(7), 1);
        c.status(x, 3, 0, 1);
    }

    private static void sheriff() {
        c.promise(5);
        CosyAsylum x = new CosyAsylum();
        c.due("sheriff(-1)", x.sheriff(-1), -2);
        c.due("sheriff(24)", x.sheriff(24), -2);
        x.hour(1);
        c.due("sheriff(0)", x.sheriff(0), 0);
        c.due("count(7)", x.count(7), 0);
        c.due("sheriff(23)", x.sheriff(23), 1);
        c.due("sheriff(23)", x.sheriff(23), 2);
        x.hour(1);
        c.due("sheriff(0), the 4th", x.sheriff(0), -4);
        c.due("sheriff(24), the 4th", x.sheriff(24), -2);
        c.due("count(2)", x.count(2), 3);
        c.due("count(7) behind one refused", x.count(7), 1);
        c.due("where(1)", x.where(1), 23);
        c.status(x, 3, 0, 1);
    }

    private static void typeAndClear() {
        c.promise(6);
        CosyAsylum x = new CosyAsylum();
        c.due("type(-1)", x.type(-1), -2);
        c.due("type(128)", x.type(128), -2);
        c.due("type(0)", x.type(0), 1);
        c.due("type(127)", x.type(127), 2);
        for (int i = 3; i <= 150; i++) {
            c.due("type(32)", x.type(32), i);
        }
        c.due("type(32), the 151st", x.type(32), -4);
        c.due("type(128), the 151st", x.type(128), -2);
        c.due("count(8)", x.count(8), 150);
        c.status(x, 3, 0, 1);
        c.promise(7);
        c.due("clear()", x.clear(), 150);
        c.due("count(8)", x.count(8), 0);
        c.due("clear()", x.clear(), 0);
        c.due("type(59)", x.type(59), 1);
        c.due("clear()", x.clear(), 1);
        c.status(x, 3, 0, 1);
    }

    private static void read() {
        c.promise(8);
        CosyAsylum x = new CosyAsylum();
        x.cosy(1, 1, 1);
        x.hunted(1);
        x.sheriff(3);
        x.note(0, 0, 2);
        x.image(0);
        x.hour(1);
        x.rain(2);
        x.hour(0);
        Check.type(x, "  common ;cosy4 05 1;wear 0 40;wear 0 07 ;cosy 0 23 4 ; hunted 00;hunted23;sheriff 9  ;wear 1 0; ");
        int length = x.count(8);
        c.due("read()", x.read(), 9);
        c.counts(x, 2, 2, 1, 0, 0, 0, 0, 0, length);
        int[][] due = {{4, 5, 1, 7}, {0, 23, 4, 0}};
        for (int k = 0; k < 2; k++) {
            for (int what = 0; what < 4; what++) {
                c.due("of(" + k + ", " + what + ")", x.of(k, what), due[k][what]);
            }
        }
        c.due("about(0, 0)", x.about(0, 0), 0);
        c.due("about(1, 0)", x.about(1, 0), 23);
        c.due("about(1, 1)", x.about(1, 1), -1);
        c.due("about(1, 2)", x.about(1, 2), 0);
        c.due("where(0)", x.where(0), 9);
        c.due("part(0)", x.part(0), 4);
        c.due("part(1)", x.part(1), 5);
        c.status(x, 1, 0, 0);
        c.due("undo()", x.undo(), -3);
        c.due("from(0)", x.from(0), 1);
        c.counts(x, 1, 1, 1, 0, 0, 0, 1, 0, length);
        c.due("clear()", x.clear(), length);
        Check.type(x, "common;");
        c.due("read()", x.read(), 1);
        c.counts(x, 0, 0, 0, 0, 0, 0, 0, 0, 7);
        fullCommon();
    }

    private static void fullCommon() {
        CosyAsylum x = new CosyAsylum();
        Check.type(x, "common;cosy0 0 1;cosy1 1 2;cosy2 2 3;cosy3 3 4;cosy4 4 1;hunted0;hunted1;hunted2;hunted3;hunted4;"
            + "hunted5;sheriff6;sheriff7;sheriff8;");
        c.due("read()", x.read(), 15);
        c.counts(x, 5, 6, 3, 0, 0, 0, 0, 0, 132);
        fault("common;cosy0 0 1;cosy1 1 2;cosy2 2 3;cosy3 3 4;cosy4 4 1;cosy 0", 57);
        fault("common;hunted0;hunted1;hunted2;hunted3;hunted4;hunted5; hunted", 56);
        fault("common;sheriff6;sheriff7;sheriff8;sheriff", 34);
    }

    /** The text can not be read, and all stays. */
    private static void fault(String text, int place) {
        CosyAsylum x = new CosyAsylum();
        x.cosy(1, 1, 1);
        x.hunted(2);
        x.hour(1);
        Check.type(x, text);
        long ahead = x.digest();
        c.due("read() of \"" + text + "\"", x.read(), -10 - place);
        c.due("digest()", x.digest(), ahead);
        c.status(x, 0, 0, 0);
        c.due("undo()", x.undo(), 0);
    }

    private static void faults() {
        fault("", 0);
        fault("   ", 3);
        fault("common", 6);
        fault("common  ", 8);
        fault("commo", 0);
        fault(" commons;", 1);
        fault(" Common;", 1);
        fault(";common;", 0);
        fault("7common;", 0);
        fault("cosy 0 0 1;", 0);
        fault("hunted 0;common;", 0);
        fault("common;common;", 7);
        fault("common;hunted 0; common;", 17);
        fault("common common;", 7);
        fault("common 1;", 7);
        fault("common;;", 7);
        fault("common;hunted", 13);
        fault("common;hunted 5", 15);
        fault("common;hunted 5 ", 16);
        fault("common;hunted;", 13);
        fault("common;hunted 24;", 14);
        fault("common;hunted 005;", 14);
        fault("common;hunted 1 2;", 16);
        fault("common;hunted 1x;", 15);
        fault("common;hunted x;", 14);
        fault("common;hunted -1;", 14);
        fault("common;hunted 99999999999999999999;", 14);
        fault("common;sheriff 24;", 15);
        fault("common;sheriff 5\t;", 16);
        fault("common;sheriffs 5;", 7);
        fault("common;cosy 6 0 1;", 12);
        fault("common;cosy 5 24 1;", 14);
        fault("common;cosy 5 23 0;", 17);
        fault("common;cosy 5 23 5;", 17);
        fault("common;cosy 5 23;", 16);
        fault("common;cosy 5 23 1 1;", 19);
        fault("common;cosy 5231;", 12);
        fault("common;wear 0 0;", 12);
        fault("common;cosy 0 0 1;wear 1 0;", 23);
        fault("common;cosy 0 0 1;wear 0 41;", 25);
        fault("common;cosy 0 0 1;wear 0;", 24);
        fault("common;cosy 0 0 1;wear 0 40", 27);
        fault("common;cosy 0 0 1;\u0000", 18);
        fault("common;cosy 0 0 1;{", 18);
        fault("common;cosy 0 0 1;`", 18);
        fault("common;cosy 0 /", 14);
        fault("common;cosy 0 :", 14);
        fault("common;cosyhunted 0;", 7);
        fault("commonz;", 0);
        fault("common;huntedz 0;", 7);
        fault("common;hunteda 0;", 7);
        fault("common;hunted{ 0;", 13);
        fault("common;hunted` 0;", 13);
        fault("dommon;", 0);
        fault("common;rosy 0 0 1;", 7);
        fault("common;gunted 0;", 7);
        fault("common;theriff 0;", 7);
        fault("common;cosy 0 0 1;year 0 0;", 18);
    }
}

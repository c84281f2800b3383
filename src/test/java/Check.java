/** Counts and tells the answers that are not as due. */
final class Check {
    private final String name;
    private int promise = 0;
    private int looked = 0;
    private int wrong = 0;

    Check(String name) {
        this.name = name;
    }

    void promise(int number) {
        promise = number;
    }

    void due(String call, long got, long due) {
        looked++;
        if (got != due) {
            wrong++;
            System.out.println(name + ", promise " + promise + ": " + call + " answered " + got + ", due is " + due);
        }
    }

    /** The number of calls refused as BAD, NO and FULL so far. */
    void status(CosyAsylum x, int bads, int noes, int fulls) {
        due("status(0)", x.status(0), bads);
        due("status(1)", x.status(1), noes);
        due("status(2)", x.status(2), fulls);
    }

    /** All nine counts. */
    void counts(CosyAsylum x, int... due) {
        for (int what = 0; what < due.length; what++) {
            due("count(" + what + ")", x.count(what), due[what]);
        }
    }

    void finish() {
        System.out.println(name + ": " + looked + " answers, " + wrong + " wrong");
        System.exit(wrong == 0 ? 0 : 1);
    }

    static void type(CosyAsylum x, String text) {
        for (int i = 0; i < text.length(); i++) {
            x.type(text.charAt(i));
        }
    }

    /** A new object that has read the text. */
    static CosyAsylum told(String text) {
        CosyAsylum x = new CosyAsylum();
        type(x, text);
        if (x.read() < 0) {
            throw new IllegalStateException("a test's own text can not be read: " + text);
        }
        x.clear();
        return x;
    }

    static long digestOf(long... values) {
        long h = 1409;
        for (long v : values) {
            h = 31 * h + v;
        }
        return h;
    }
}

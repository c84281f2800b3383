import java.util.ArrayList;
import java.util.List;

/** Looks at single sentences of the document, each on new objects of its own; tells those that do not hold. */
public abstract class Edge {
    /** What is done on a new object ahead of the call that is looked at. */
    interface Ahead {
        void on(CosyAsylum x);

        default Ahead then(Ahead more) {
            return x -> {
                on(x);
                more.on(x);
            };
        }
    }

    interface Call {
        long on(CosyAsylum x);
    }

    interface Calls {
        long[] on(CosyAsylum x);
    }

    interface CallWith {
        long on(CosyAsylum x, int n);
    }

    static final int BAD = -2, NO = -3, FULL = -4, NOT_SO_MANY = -5, BAD_HERE = -10, NONE = -1;
    private static final int BADS = 0, NOES = 1, FULLS = 2, REFUSED_BY_NONE = 3;

    private final List<String> broken = new ArrayList<>();
    private int looked = 0;
    private int promise = 0;

    /** Looks at all sentences of the test. */
    abstract void look();

    /** The sentences that do not hold, each behind its promise. */
    public final List<String> broken() {
        broken.clear();
        looked = 0;
        look();
        return broken;
    }

    final void finish() {
        broken().forEach(System.out::println);
        System.out.println(getClass().getName() + ": " + looked + " sentences, " + broken.size() + " broken");
        System.exit(broken.isEmpty() && looked > 0 ? 0 : 1);
    }

    final void promise(int number) {
        promise = number;
    }

    /** What is wrong with a sentence; empty, if it holds. */
    private interface Look {
        String wrong();
    }

    /** A call that throws breaks the sentence, not the test. */
    private void tell(String sentence, Look look) {
        String wrong;
        try {
            wrong = look.wrong();
        } catch (RuntimeException e) {
            wrong = " threw " + e;
        }
        looked++;
        if (!wrong.isEmpty()) {
            broken.add("promise " + promise + ": " + sentence + ":" + wrong);
        }
    }

    private static String differs(long got, long due) {
        return got == due ? "" : " answered " + got + ", due is " + due;
    }

    private static CosyAsylum made(Ahead ahead) {
        CosyAsylum x = new CosyAsylum();
        ahead.on(x);
        return x;
    }

    /** The call answers so; what it changes is not looked at. */
    final void answers(String sentence, Ahead ahead, Call call, long due) {
        tell(sentence, () -> differs(call.on(made(ahead)), due));
    }

    /** The calls answer so, one behind the other. */
    final void answersAll(String sentence, Ahead ahead, Calls calls, long... due) {
        tell(sentence, () -> differAll(calls.on(made(ahead)), due));
    }

    private static String differAll(long[] got, long[] due) {
        String wrong = got.length == due.length ? "" : " " + got.length + " answers";
        for (int i = 0; i < Math.min(got.length, due.length); i++) {
            wrong += got[i] == due[i] ? "" : " the " + (i + 1) + ". answered " + got[i] + ", due is " + due[i];
        }
        return wrong;
    }

    static long[] row(long... answers) {
        return answers;
    }

    /** The call answers so and changes nothing, nor STATUS. */
    final void looks(String sentence, Ahead ahead, Call call, long due) {
        stays(sentence, ahead, call, due, REFUSED_BY_NONE);
    }

    /** Refused as BAD by -2, changing nothing but STATUS (so of the others below, each by its answer). */
    final void bad(String sentence, Ahead ahead, Call call) {
        stays(sentence, ahead, call, BAD, BADS);
    }

    final void badHere(String sentence, Ahead ahead, Call call) {
        stays(sentence, ahead, call, BAD_HERE, BADS);
    }

    final void badBy(String sentence, Ahead ahead, Call call, long answer) {
        stays(sentence, ahead, call, answer, BADS);
    }

    final void no(String sentence, Ahead ahead, Call call) {
        stays(sentence, ahead, call, NO, NOES);
    }

    final void full(String sentence, Ahead ahead, Call call) {
        stays(sentence, ahead, call, FULL, FULLS);
    }

    private void stays(String sentence, Ahead ahead, Call call, long due, int refusedAs) {
        tell(sentence, () -> doesNotStay(ahead, call, due, refusedAs));
    }

    private static String doesNotStay(Ahead ahead, Call call, long due, int refusedAs) {
        CosyAsylum with = made(ahead), without = made(ahead);
        String wrong = differs(call.on(with), due);
        for (int what = BADS; what <= FULLS; what++) {
            int more = with.status(what) - without.status(what);
            wrong += more == (what == refusedAs ? 1 : 0) ? "" : " STATUS " + what + " is " + more + " more";
        }
        return everything(with).equals(everything(without)) ? wrong : wrong + " changed something";
    }

    /** All but STATUS that calls can tell of an object: it is used up by that. */
    private static List<Long> everything(CosyAsylum x) {
        List<Long> all = new ArrayList<>();
        tellPast(x, all);
        for (int i = 0; i < 2; i++) {
            all.add((long) x.from(i));
            tellPast(x, all);
        }
        all.add((long) x.read());
        all.add(x.digest());
        return all;
    }

    private static void tellPast(CosyAsylum x, List<Long> all) {
        all.add(x.digest());
        for (int i = 0; i < 9; i++) {
            all.add((long) x.undo());
            all.add(x.digest());
        }
    }

    /** A number's least and greatest may be; one beyond either, and the farthest of all, are BAD. */
    final void range(String number, int least, int most, Ahead ahead, CallWith call) {
        rangeBy(number, least, most, BAD, ahead, call);
    }

    final void rangeHere(String number, int least, int most, Ahead ahead, CallWith call) {
        rangeBy(number, least, most, BAD_HERE, ahead, call);
    }

    final void rangeBy(String number, int least, int most, long answer, Ahead ahead, CallWith call) {
        leastBy(number, least, answer, ahead, call);
        if (most > least) {
            mayBe(number + " may be " + most, ahead, x -> call.on(x, most));
        }
        badBy(number + " may not be " + (most + 1), ahead, x -> call.on(x, most + 1), answer);
        badBy(number + " may not be as great as can be", ahead, x -> call.on(x, Integer.MAX_VALUE), answer);
    }

    /** A number from the least on, as great as one likes. */
    final void leastBy(String number, int least, long answer, Ahead ahead, CallWith call) {
        mayBe(number + " may be " + least, ahead, x -> call.on(x, least));
        badBy(number + " may not be " + (least - 1), ahead, x -> call.on(x, least - 1), answer);
        badBy(number + " may not be as small as can be", ahead, x -> call.on(x, Integer.MIN_VALUE), answer);
    }

    /** The call is refused by none of the reasons. */
    final void mayBe(String sentence, Ahead ahead, Call call) {
        tell(sentence, () -> isRefused(ahead, call));
    }

    private static String isRefused(Ahead ahead, Call call) {
        CosyAsylum with = made(ahead), without = made(ahead);
        long got = call.on(with);
        String wrong = "";
        for (int what = BADS; what <= FULLS; what++) {
            wrong += with.status(what) == without.status(what) ? "" : " answered " + got + ", refused as " + what;
        }
        return wrong;
    }

    // ---- what a call may find ahead of it

    static final Ahead EMPTY = x -> { };

    static final String SHORT_TEXT = "common;hunted 3;";

    /**
     * A common of two cosies, three hunted (the first under the first cosy, the second taken, the third free) and a
     * sheriff, in hour 1; two notes, three that may be undone, both images (each another), a text of 16 bytes,
     * the fraction 7 by 10, and three, two, one calls refused as BAD, NO, FULL: nothing of it as in a new object.
     */
    static final Ahead BUSY = x -> {
        x.undo();
        x.from(0);
        x.hunted(24);
        x.cosy(6, 0, 1);
        x.about(6, 0);
        for (int i = 0; i < 4; i++) {
            x.sheriff(12);
        }
        x.cosy(2, 3, 4);
        x.hunted(15);
        x.note(0, 4, 4);
        x.hour(2);
        x.darn(0, 1);
        x.image(1);
        x.common();
        x.cosy(1, 8, 1);
        x.cosy(2, 20, 2);
        x.hunted(8);
        x.hunted(23);
        x.hunted(5);
        x.sheriff(23);
        x.note(0, 0, 2);
        x.note(1, 3, 1);
        x.hour(1);
        x.darn(0, 1);
        x.image(0);
        x.carry(1, 21);
        x.rain(3);
        type(x, SHORT_TEXT);
    };

    /** A text of 150 bytes, that tells a common with nothing to spare. */
    static final String LONG_TEXT = "common;cosy0 0 1;cosy1 1 2;cosy2 2 3;cosy3 3 4;cosy4 4 1;hunted0;hunted1;hunted2;"
        + "hunted3;hunted4;hunted5;sheriff6;sheriff7;sheriff8;wear 4 40;wear0 3;";

    /** Five cosies, six hunted, three sheriffs, six notes, eight that may be undone, 150 bytes. */
    static final Ahead ALL_FULL = BUSY.then(x -> {
        x.common();
        x.clear();
        for (int k = 0; k < 5; k++) {
            x.cosy(k, 5 * k, 1 + k % 4);
        }
        for (int p = 0; p < 6; p++) {
            x.hunted(4 * p);
        }
        for (int s = 0; s < 3; s++) {
            x.sheriff(12 + s);
        }
        for (int i = 0; i < 6; i++) {
            x.note(i % 5, 7 * i, i);
        }
        for (int i = 0; i < 3; i++) {
            x.hour(1);
            x.carry(i, 6 * i + 1);
            x.darn(i, 1);
        }
        type(x, LONG_TEXT);
    });

    /** The hour is 999, the last; nothing may be undone; of the two hunted one is taken; an old cosy has no wear. */
    static final Ahead LAST_HOUR = x -> {
        x.cosy(5, 0, 4);
        x.hunted(23);
        x.sheriff(23);
        for (int i = 0; i < 33; i++) {
            x.hour(30);
        }
        x.hour(9);
        x.darn(0, 40);
        x.hunted(5);
    };

    static void type(CosyAsylum x, String text) {
        for (int i = 0; i < text.length(); i++) {
            x.type(text.charAt(i));
        }
    }

    /** A common told by a text. */
    static Ahead told(String text) {
        return x -> {
            type(x, text);
            if (x.read() < 0) {
                throw new IllegalStateException("a test's own text can not be read: " + text);
            }
            x.clear();
        };
    }

    static Ahead typed(String text) {
        return BUSY.then(x -> {
            x.clear();
            type(x, text);
        });
    }
}

import java.util.Random;

/** Runs of drawn calls, on the class and on the model: every answer, and the whole state behind each, must be alike. */
public final class ModelTest {
    private static final int RUNS = 1500, CALLS = 512;
    private static final String[] PIECES = {"common;", "common", "cosy ", "hunted ", "sheriff ", "wear ", ";", " ", "0", "1",
        "2 ", "3 ", "4", "5", "12 ", "23", "24", "40", "41", "007", "123", "cozy", "wears", "A", "\t", "-1", "hunted 7;",
        "sheriff 20;", "cosy 0 9 1;", "cosy 4 14 2;", "cosy 5 3 4;", "wear 0 39;", "wear 1 9 ; ", "hunted0;", "cosy2 15 3;"};

    private final Random random;
    private final CosyAsylum x = new CosyAsylum();
    private final Model m = new Model();
    private final StringBuilder told = new StringBuilder();
    private int wrong = 0;
    private int calls = 0;

    private ModelTest(int seed) {
        random = new Random(seed);
    }

    public static void main(String[] args) {
        int wrong = 0;
        for (int seed = 0; seed < RUNS && wrong < 5; seed++) {
            wrong += new ModelTest(seed).go();
        }
        System.out.println("ModelTest: " + RUNS + " runs of " + CALLS + " calls, " + wrong + " wrong");
        System.exit(wrong == 0 ? 0 : 1);
    }

    private int go() {
        int most = 1 + random.nextInt(3);
        if (random.nextBoolean()) {
            settle();
        }
        while (calls < CALLS - 2 && wrong == 0) {
            call(most);
            same("digest()", x.digest(), m.digest());
        }
        return wrong;
    }

    private void same(String call, long got, long due) {
        calls++;
        told.append(call).append(" = ").append(due).append('\n');
        if (got != due) {
            wrong++;
            System.out.println(told + "but it answered " + got);
        }
    }

    /** A number that is mostly from least to most, now and then one beyond, seldom far off. */
    private int near(int least, int most) {
        switch (random.nextInt(24)) {
            case 0: return least - 1;
            case 1: return most + 1;
            case 2: return random.nextInt(4) == 0 ? random.nextInt() : most;
            case 3: return random.nextInt(4) == 0 ? (random.nextBoolean() ? Integer.MIN_VALUE : Integer.MAX_VALUE) : least;
            default: return least + random.nextInt(most - least + 1);
        }
    }

    private int k() { return near(0, Math.max(0, m.now.world.cosies.size() - 1)); }
    private int p() { return near(0, Math.max(0, m.now.world.hunted.size() - 1)); }

    /** A full common, so that the rest of the run has something to look at. */
    private void settle() {
        for (int i = random.nextInt(6); i > 0; i--) comes(0);
        for (int i = random.nextInt(7); i > 0; i--) comes(1);
        for (int i = random.nextInt(4); i > 0; i--) comes(2);
    }

    private void comes(int what) {
        int a = near(0, 5), b = near(0, 23), c = near(1, 4);
        switch (what) {
            case 0: same("cosy(" + a + ", " + b + ", " + c + ")", x.cosy(a, b, c), m.cosy(a, b, c)); break;
            case 1: same("hunted(" + b + ")", x.hunted(b), m.hunted(b)); break;
            default: same("sheriff(" + b + ")", x.sheriff(b), m.sheriff(b));
        }
    }

    private void type() {
        int c = near(0, 127);
        same("type(" + c + ")", x.type(c), m.type(c));
    }

    private void typePiece() {
        String piece = PIECES[random.nextInt(PIECES.length)];
        for (int i = 0; i < piece.length() && calls < CALLS - 3; i++) {
            int c = piece.charAt(i);
            same("type(" + c + ")", x.type(c), m.type(c));
        }
    }

    private void typeCommon() {
        same("clear()", x.clear(), m.clear());
        StringBuilder s = new StringBuilder("common;");
        String[] items = {"cosy %d %d %d;", "hunted %2$d ; ", "sheriff%2$d;", "wear %d %2$d;", " ", "cosy%d %d %d ;"};
        for (int i = 1 + random.nextInt(12); i > 0 && s.length() < 145; i--) {
            s.append(String.format(items[random.nextInt(items.length)], random.nextInt(6), random.nextInt(24), 1 + random.nextInt(4)));
        }
        for (int i = 0; i < s.length() && calls < CALLS - 3; i++) {
            int c = s.charAt(i);
            same("type(" + c + ")", x.type(c), m.type(c));
        }
        same("read()", x.read(), m.read());
    }

    private void call(int kindOfRun) {
        switch (kindOfRun == 1 ? random.nextInt(8) : random.nextInt(40)) {
            case 0: case 1: comes(random.nextInt(3)); break;
            case 2: case 3: hours(); break;
            case 4: same("undo()", x.undo(), m.undo()); break;
            case 5: case 6: changes(); break;
            case 7: looks(); break;
            case 8: if (random.nextInt(6) == 0) same("common()", x.common(), m.common()); break;
            case 9: if (kindOfRun == 3) typePiece(); else type(); break;
            case 10: if (kindOfRun == 3) typeCommon(); else same("read()", x.read(), m.read()); break;
            case 11: if (random.nextInt(6) == 0) same("clear()", x.clear(), m.clear()); break;
            case 12: case 13: case 14: notes(); break;
            case 15: case 16: case 17: images(); break;
            case 18: case 19: rains(); break;
            default: looks();
        }
    }

    private void hours() {
        int n = random.nextInt(3) == 0 ? near(1, 30) : near(1, 4);
        same("hour(" + n + ")", x.hour(n), m.hour(n));
    }

    private void changes() {
        int k = k(), n = near(1, 40), cell = near(0, 23);
        if (random.nextInt(3) == 0) same("darn(" + k + ", " + n + ")", x.darn(k, n), m.darn(k, n));
        else same("carry(" + k + ", " + cell + ")", x.carry(k, cell), m.carry(k, cell));
    }

    private void notes() {
        int k = k(), w = near(0, 40), n = near(0, 5);
        if (random.nextBoolean() && k >= 0 && k < m.now.world.cosies.size() && w >= 0 && w <= 40) {
            n = Model.holds(random.nextInt(6), m.now.world.cosies.get(k).size(), w);
        }
        if (random.nextInt(5) == 0) same("forget()", x.forget(), m.forget());
        else same("note(" + k + ", " + w + ", " + n + ")", x.note(k, w, n), m.note(k, w, n));
        same("is(" + k + ")", x.is(k), m.is(k));
        same("feel(" + k + ")", x.feel(k), m.feel(k));
    }

    private void images() {
        int i = near(0, 1);
        if (random.nextBoolean()) same("image(" + i + ")", x.image(i), m.image(i));
        else same("from(" + i + ")", x.from(i), m.from(i));
    }

    private void rains() {
        int c = near(0, 10), what = near(0, 1), seed = near(0, 999999), n = near(0, 30);
        same("rain(" + c + ")", x.rain(c), m.rain(c));
        same("part(" + what + ")", x.part(what), m.part(what));
        if (random.nextInt(4) == 0) same("years(" + seed + ", " + n + ")", x.years(seed, n), m.years(seed, n));
    }

    private void looks() {
        int k = k(), p = p(), q = p(), s = near(0, Math.max(0, m.now.world.sheriffs.size() - 1)), what = near(0, 2), later = near(0, 40);
        switch (random.nextInt(15)) {
            case 0: what = near(0, 5); same("of(" + k + ", " + what + ")", x.of(k, what), m.of(k, what)); break;
            case 1: same("about(" + p + ", " + what + ")", x.about(p, what), m.about(p, what)); break;
            case 2: same("where(" + s + ")", x.where(s), m.where(s)); break;
            case 3: same("then(" + p + ", " + later + ", " + what + ")", x.then(p, later, what), m.then(p, later, what)); break;
            case 4: same("fate(" + later + ", " + what + ")", x.fate(later, what), m.fate(later, what)); break;
            case 5: same("when(" + p + ")", x.when(p), m.when(p)); break;
            case 6: later = near(0, 20); same("place(" + k + ", " + later + ")", x.place(k, later), m.place(k, later)); break;
            case 7: what = near(-1, 4); same("run(" + p + ", " + what + ")", x.run(p, what), m.run(p, what)); break;
            case 8: what = near(0, 9); same("stitches(" + k + ", " + what + ")", x.stitches(k, what), m.stitches(k, what)); break;
            case 9: what = near(0, 1); later = near(0, 8);
                same("inside(" + k + ", " + later + ", " + what + ")", x.inside(k, later, what), m.inside(k, later, what)); break;
            case 10: what = near(-1, 4); same("two(" + p + ", " + q + ", " + what + ")", x.two(p, q, what), m.two(p, q, what)); break;
            case 11: what = near(0, 2); same("status(" + what + ")", x.status(what), m.status(what)); break;
            case 12: what = near(0, 8); same("count(" + what + ")", x.count(what), m.count(what)); break;
            case 13: same("is(" + k + ")", x.is(k), m.is(k)); break;
            default: same("feel(" + k + ")", x.feel(k), m.feel(k));
        }
    }
}

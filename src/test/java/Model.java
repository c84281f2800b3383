import java.math.BigInteger;
import java.util.ArrayDeque;
import java.util.ArrayList;
import java.util.Deque;
import java.util.List;
import java.util.regex.Matcher;
import java.util.regex.Pattern;

/** The document said once more, slowly and with the whole Java library: what ModelTest holds the class against. */
final class Model {
    record Cosy(int kind, int cell, int size, int wear) {
        Cosy worn(int w) { return new Cosy(kind, cell, size, Math.max(0, Math.min(40, w))); }
        Cosy at(int c) { return new Cosy(kind, c, size, wear); }
        int holds() { return Model.holds(kind, size, wear); }
    }

    /** under: a cosy's number, or -1; taken ones are under none. */
    record Hunted(int cell, int under, boolean taken) {
        boolean free() { return under < 0 && !taken; }
    }

    record Note(int k, int w, int n) { }

    /** What hours change, and undo gives back. */
    static final class World {
        List<Cosy> cosies = new ArrayList<>();
        List<Hunted> hunted = new ArrayList<>();
        List<Integer> sheriffs = new ArrayList<>();
        int hour = 0;

        World copy() {
            World w = new World();
            w.cosies.addAll(cosies);
            w.hunted.addAll(hunted);
            w.sheriffs.addAll(sheriffs);
            w.hour = hour;
            return w;
        }

        int under(int k) { return (int) hunted.stream().filter(h -> h.under() == k).count(); }
        int under() { return (int) hunted.stream().filter(h -> h.under() >= 0).count(); }
        int taken() { return (int) hunted.stream().filter(Hunted::taken).count(); }

        int toldCosy(int cell) {
            int told = -1;
            for (int k = cosies.size() - 1; k >= 0; k--) {
                boolean room = cosies.get(k).holds() > under(k);
                if (room && (told < 0 || far(cell, cosies.get(k).cell()) <= far(cell, cosies.get(told).cell()))) told = k;
            }
            return told;
        }

        void flee(int p) {
            int cell = hunted.get(p).cell();
            int k = toldCosy(cell);
            if (k < 0) return;
            int goal = cosies.get(k).cell();
            hunted.set(p, cell == goal ? new Hunted(cell, k, false) : new Hunted(step(cell, goal), -1, false));
        }

        /** False, if that choice leads off the common. */
        boolean goAs(int p, int choice) {
            int cell = hunted.get(p).cell();
            if (choice == 4) {
                int k = toldCosy(cell);
                if (k >= 0 && cosies.get(k).cell() == cell) hunted.set(p, new Hunted(cell, k, false));
                return true;
            }
            int row = cell / 6 + new int[] {0, 1, 0, -1}[choice];
            int column = cell % 6 + new int[] {1, 0, -1, 0}[choice];
            if (row < 0 || row > 3 || column < 0 || column > 5) return false;
            hunted.set(p, new Hunted(6 * row + column, -1, false));
            return true;
        }

        /** False, if the runner's choice leads off the common. */
        boolean pass(int runner, int choice) {
            for (int p = 0; p < hunted.size(); p++) {
                if (!hunted.get(p).free()) continue;
                if (p != runner) flee(p);
                else if (!goAs(p, choice)) return false;
            }
            for (int s = 0; s < sheriffs.size(); s++) chase(s);
            for (int k = 0; k < cosies.size(); k++) wear(k);
            hour++;
            return true;
        }

        void chase(int s) {
            int prey = -1;
            for (int p = hunted.size() - 1; p >= 0; p--) {
                if (!hunted.get(p).free()) continue;
                int off = far(sheriffs.get(s), hunted.get(p).cell());
                if (prey < 0 || off <= far(sheriffs.get(s), hunted.get(prey).cell())) prey = p;
            }
            if (prey < 0) return;
            int cell = step(sheriffs.get(s), hunted.get(prey).cell());
            sheriffs.set(s, cell);
            hunted.replaceAll(h -> h.free() && h.cell() == cell ? new Hunted(cell, -1, true) : h);
        }

        void wear(int k) {
            Cosy c = cosies.get(k);
            cosies.set(k, c.worn(c.wear() + wears(c.kind(), under(k))));
            while (under(k) > cosies.get(k).holds()) {
                int last = hunted.size() - 1;
                while (hunted.get(last).under() != k) last--;
                hunted.set(last, new Hunted(c.cell(), -1, false));
            }
        }

        World behind(int m) {
            World w = copy();
            for (int i = 0; i < m; i++) w.pass(-1, -1);
            return w;
        }

        void carry(int k, int cell) {
            cosies.set(k, cosies.get(k).at(cell));
            hunted.replaceAll(h -> h.under() == k ? new Hunted(cell, k, false) : h);
        }
    }

    static int holds(int kind, int s, int w) {
        switch (kind) {
            case 0: return Math.max(0, s - w / 10);
            case 1: return 1 + holds(0, s, w);
            case 2: return holds(0, s, w / 2);
            case 4: return (w == 0 ? 2 : 0) + holds(1, s, w);
            case 5: return Math.max(0, holds(2, s, w) - 1);
            default: return 0;
        }
    }

    static int wears(int kind, int n) {
        switch (kind) {
            case 3: return 0;
            case 4: return 2 * wears(1, n);
            case 5: return 1 + wears(2, n);
            default: return n;
        }
    }

    static int far(int a, int b) {
        return Math.abs(a / 6 - b / 6) + Math.abs(a % 6 - b % 6);
    }

    static int step(int cell, int goal) {
        int dr = goal / 6 - cell / 6, dc = goal % 6 - cell % 6;
        if (dr == 0 && dc == 0) return cell;
        return Math.abs(dc) >= Math.abs(dr) ? cell + Integer.signum(dc) : cell + 6 * Integer.signum(dr);
    }

    static final class Whole {
        World world = new World();
        Deque<World> past = new ArrayDeque<>();
        List<Note> notes = new ArrayList<>();

        Whole copy() {
            Whole w = new Whole();
            w.world = world.copy();
            for (World p : past) w.past.addLast(p.copy());
            w.notes.addAll(notes);
            return w;
        }
    }

    Whole now = new Whole();
    final Whole[] images = new Whole[2];
    final StringBuilder text = new StringBuilder();
    BigInteger above = BigInteger.ZERO, below = BigInteger.ONE;
    final int[] refused = new int[3];

    private int refuse(int which, int answer) { refused[which]++; return answer; }
    private int bad() { return refuse(0, -2); }
    private static boolean in(int x, int a, int b) { return a <= x && x <= b; }
    private boolean isK(int k) { return in(k, 0, now.world.cosies.size() - 1); }
    private boolean isP(int p) { return in(p, 0, now.world.hunted.size() - 1); }
    private void keepPast() {
        now.past.addLast(now.world.copy());
        if (now.past.size() > 8) now.past.removeFirst();
    }

    int common() { int n = now.world.cosies.size(); now = new Whole(); return n; }

    int cosy(int kind, int cell, int size) {
        if (!in(kind, 0, 5) || !in(cell, 0, 23) || !in(size, 1, 4)) return bad();
        if (now.world.cosies.size() == 5) return refuse(2, -4);
        now.past.clear();
        now.world.cosies.add(new Cosy(kind, cell, size, 0));
        return now.world.cosies.size() - 1;
    }

    int hunted(int cell) {
        if (!in(cell, 0, 23)) return bad();
        if (now.world.hunted.size() == 6) return refuse(2, -4);
        now.past.clear();
        now.world.hunted.add(new Hunted(cell, -1, false));
        return now.world.hunted.size() - 1;
    }

    int sheriff(int cell) {
        if (!in(cell, 0, 23)) return bad();
        if (now.world.sheriffs.size() == 3) return refuse(2, -4);
        now.past.clear();
        now.world.sheriffs.add(cell);
        return now.world.sheriffs.size() - 1;
    }

    int type(int c) {
        if (!in(c, 0, 127)) return bad();
        if (text.length() == 150) return refuse(2, -4);
        text.append((char) c);
        return text.length();
    }

    int clear() { int n = text.length(); text.setLength(0); return n; }

    private record Token(String s, int at) { }

    private static final Pattern TOKEN = Pattern.compile("[a-z]+|[0-9]+|[^ ]", Pattern.DOTALL);

    int read() {
        List<Token> tokens = new ArrayList<>();
        Matcher m = TOKEN.matcher(text);
        while (m.find()) tokens.add(new Token(m.group(), m.start()));
        World w = new World();
        int items = 0, i = 0;
        while (i < tokens.size()) {
            String word = tokens.get(i).s();
            List<int[]> due = new ArrayList<>();
            boolean stands = items == 0 ? word.equals("common") : true;
            switch (word) {
                case "common": stands &= items == 0; break;
                case "cosy": stands &= w.cosies.size() < 5; due = List.of(new int[] {0, 5}, new int[] {0, 23}, new int[] {1, 4}); break;
                case "hunted": stands &= w.hunted.size() < 6; due = List.of(new int[] {0, 23}); break;
                case "sheriff": stands &= w.sheriffs.size() < 3; due = List.of(new int[] {0, 23}); break;
                case "wear": due = List.of(new int[] {0, w.cosies.size() - 1}, new int[] {0, 40}); break;
                default: stands = false;
            }
            if (!stands) return -10 - tokens.get(i).at();
            i++;
            List<Integer> got = new ArrayList<>();
            for (int[] range : due) {
                if (i >= tokens.size()) return -10 - text.length();
                String s = tokens.get(i).s();
                if (!s.matches("[0-9]{1,2}") || !in(Integer.parseInt(s), range[0], range[1])) return -10 - tokens.get(i).at();
                got.add(Integer.parseInt(s));
                i++;
            }
            if (i >= tokens.size()) return -10 - text.length();
            if (!tokens.get(i).s().equals(";")) return -10 - tokens.get(i).at();
            i++;
            items++;
            if (word.equals("cosy")) w.cosies.add(new Cosy(got.get(0), got.get(1), got.get(2), 0));
            if (word.equals("hunted")) w.hunted.add(new Hunted(got.get(0), -1, false));
            if (word.equals("sheriff")) w.sheriffs.add(got.get(0));
            if (word.equals("wear")) w.cosies.set(got.get(0), w.cosies.get(got.get(0)).worn(got.get(1)));
        }
        if (items == 0) return -10 - text.length();
        now = new Whole();
        now.world = w;
        return items;
    }

    int hour(int n) {
        if (!in(n, 1, 30)) return bad();
        keepPast();
        for (int i = 0; i < n; i++) if (now.world.hour < 999) now.world.pass(-1, -1);
        return now.world.taken();
    }

    int darn(int k, int n) {
        if (!isK(k) || !in(n, 1, 40)) return bad();
        keepPast();
        Cosy c = now.world.cosies.get(k);
        now.world.cosies.set(k, c.worn(c.wear() - n));
        return now.world.cosies.get(k).wear();
    }

    int carry(int k, int cell) {
        if (!isK(k) || !in(cell, 0, 23)) return bad();
        keepPast();
        int was = now.world.cosies.get(k).cell();
        now.world.carry(k, cell);
        return was;
    }

    int undo() {
        if (now.past.isEmpty()) return refuse(1, -3);
        now.world = now.past.removeLast();
        return now.world.hour;
    }

    int of(int k, int what) {
        if (!isK(k) || !in(what, 0, 5)) return bad();
        Cosy c = now.world.cosies.get(k);
        int who = 0;
        for (int p = 0; p < now.world.hunted.size(); p++) if (now.world.hunted.get(p).under() == k) who += 1 << p;
        return new int[] {c.kind(), c.cell(), c.size(), c.wear(), c.holds(), who}[what];
    }

    private static int tell(World w, int p, int what) {
        Hunted h = w.hunted.get(p);
        return what == 0 ? h.cell() : what == 1 ? h.under() : h.taken() ? 1 : 0;
    }

    int about(int p, int what) {
        if (!isP(p) || !in(what, 0, 2)) return refuse(0, -10);
        return tell(now.world, p, what);
    }

    int where(int s) {
        return in(s, 0, now.world.sheriffs.size() - 1) ? now.world.sheriffs.get(s) : bad();
    }

    int then(int p, int m, int what) {
        if (!isP(p) || !in(m, 0, 40) || !in(what, 0, 2)) return refuse(0, -10);
        return tell(now.world.behind(m), p, what);
    }

    int fate(int m, int what) {
        if (!in(m, 0, 40) || !in(what, 0, 2)) return bad();
        World w = now.world.behind(m);
        int who = 0;
        for (int p = 0; p < w.hunted.size(); p++) if (w.hunted.get(p).taken()) who += 1 << p;
        return what == 0 ? w.taken() : what == 1 ? who : w.under();
    }

    int when(int p) {
        if (!isP(p)) return bad();
        if (now.world.hunted.get(p).taken()) return -1;
        for (int m = 1; m <= 40; m++) if (now.world.behind(m).hunted.get(p).taken()) return m;
        return -1;
    }

    int place(int k, int m) {
        if (!isK(k) || !in(m, 0, 20)) return bad();
        int best = -1;
        long bestScore = Long.MAX_VALUE;
        for (int cell = 0; cell < 24; cell++) {
            World w = now.world.copy();
            w.carry(k, cell);
            w = w.behind(m);
            long score = 10000L * w.taken() - 100L * w.under() + cell;
            if (score < bestScore) { bestScore = score; best = cell; }
        }
        return best;
    }

    /** Every row of choices of every length is tried, in order. */
    private int[] firstRow(int p) {
        for (int hours = 1; hours <= 4; hours++) {
            int rows = (int) Math.pow(5, hours);
            for (int row = 0; row < rows; row++) {
                int[] choices = new int[hours];
                for (int i = hours - 1, rest = row; i >= 0; i--, rest /= 5) choices[i] = rest % 5;
                World w = now.world.copy();
                boolean goes = true;
                for (int c : choices) goes = goes && w.hunted.get(p).free() && w.pass(p, c);
                if (goes && w.hunted.get(p).under() >= 0) return choices;
            }
        }
        return null;
    }

    int run(int p, int i) {
        if (!isP(p) || i < -1) return refuse(0, -10);
        if (!now.world.hunted.get(p).free()) return refuse(1, -3);
        int[] row = firstRow(p);
        if (row == null) return -1;
        if (i == -1) return row.length;
        return i < row.length ? row[i] : -5;
    }

    int stitches(int k, int n) {
        if (!isK(k) || !in(n, 0, 9)) return bad();
        Cosy c = now.world.cosies.get(k);
        for (int less = 0; less <= 40; less++) if (c.worn(c.wear() - less).holds() >= n) return less;
        return -1;
    }

    int note(int k, int w, int n) {
        if (!isK(k) || !in(w, 0, 40) || !in(n, 0, 9)) return bad();
        if (now.notes.size() == 6) return refuse(2, -4);
        now.notes.add(new Note(k, w, n));
        return now.notes.size();
    }

    int forget() { int n = now.notes.size(); now.notes.clear(); return n; }

    private List<Integer> kindsOf(int k) {
        List<Integer> kinds = new ArrayList<>();
        int size = now.world.cosies.get(k).size();
        for (int kind = 0; kind < 6; kind++) {
            int t = kind;
            if (now.notes.stream().allMatch(o -> o.k() != k || holds(t, size, o.w()) == o.n())) kinds.add(kind);
        }
        return kinds;
    }

    int is(int k) {
        if (!isK(k)) return bad();
        return kindsOf(k).stream().mapToInt(t -> 1 << t).sum();
    }

    int feel(int k) {
        if (!isK(k)) return bad();
        List<Integer> kinds = kindsOf(k);
        if (kinds.isEmpty()) return -1;
        int best = -1, fewest = 99;
        for (int w = 0; w <= 40; w++) {
            int[] alike = new int[20];
            for (int kind : kinds) alike[holds(kind, now.world.cosies.get(k).size(), w)]++;
            int most = 0;
            for (int a : alike) most = Math.max(most, a);
            if (most < fewest) { fewest = most; best = w; }
        }
        return best;
    }

    int inside(int k, int x, int what) {
        if (!isK(k) || !in(x, 0, 8) || !in(what, 0, 1)) return bad();
        Cosy c = now.world.cosies.get(k);
        List<Integer> sets = new ArrayList<>(List.of(0));
        for (int p = 0; p < now.world.hunted.size(); p++) {
            Hunted h = now.world.hunted.get(p);
            if (h.taken() || far(h.cell(), c.cell()) > x) continue;
            for (int set : new ArrayList<>(sets)) sets.add(set | 1 << p);
        }
        sets.removeIf(set -> Integer.bitCount(set) > c.holds());
        return what == 0 ? sets.size() : sets.stream().reduce(0, (a, b) -> a | b);
    }

    private int gain(int p, int k, int q, int l) {
        Cosy c = now.world.cosies.get(k);
        int g = 9 - far(now.world.hunted.get(p).cell(), c.cell());
        if (c.holds() <= now.world.under(k)) return 0 - g;
        if (c.holds() == now.world.under(k) + 1 && k == l && p > q) return 0 - g;
        return g;
    }

    int two(int a, int b, int k) {
        if (!isP(a) || !isP(b) || a == b || k < -1) return refuse(0, -10);
        if (!now.world.hunted.get(a).free() || !now.world.hunted.get(b).free()) return refuse(1, -3);
        List<Integer> pairs = new ArrayList<>();
        int n = now.world.cosies.size();
        for (int pair = 0; pair < 25; pair++) {
            int i = pair / 5, j = pair % 5;
            if (i >= n || j >= n) continue;
            boolean rests = true;
            for (int o = 0; o < n; o++) rests &= gain(a, o, b, j) <= gain(a, i, b, j) && gain(b, o, a, i) <= gain(b, j, a, i);
            if (rests) pairs.add(pair);
        }
        return k == -1 ? pairs.size() : k < pairs.size() ? pairs.get(k) : -5;
    }

    int rain(int c) {
        if (!in(c, 0, 10)) return bad();
        BigInteger top = BigInteger.valueOf((long) now.world.under() * (10 - c)), ten = BigInteger.TEN;
        above = top.divide(top.gcd(ten));
        below = ten.divide(top.gcd(ten));
        return 1;
    }

    int years(int seed, int n) {
        if (!in(seed, 0, 999999) || !in(n, 0, 30)) return bad();
        BigInteger x = BigInteger.valueOf(seed);
        int taken = 0;
        for (int year = 0; year < n; year++) {
            World w = now.world.copy();
            for (int p = 0; p < w.hunted.size(); p++) {
                x = x.multiply(BigInteger.valueOf(1103515245)).add(BigInteger.valueOf(12345)).mod(BigInteger.valueOf(2147483648L));
                w.hunted.set(p, new Hunted(x.intValue() / 65536 % 24, -1, false));
            }
            taken += w.behind(9).taken();
        }
        return taken;
    }

    long part(int what) { return what == 0 ? above.longValue() : what == 1 ? below.longValue() : bad(); }

    int image(int i) {
        if (!in(i, 0, 1)) return bad();
        images[i] = now.copy();
        return 1;
    }

    int from(int i) {
        if (!in(i, 0, 1)) return bad();
        if (images[i] == null) return refuse(1, -3);
        now = images[i].copy();
        return 1;
    }

    int status(int what) { return in(what, 0, 2) ? refused[what] : refuse(0, -1); }

    int count(int what) {
        if (!in(what, 0, 8)) return bad();
        World w = now.world;
        return new int[] {w.cosies.size(), w.hunted.size(), w.sheriffs.size(), w.hour, w.taken(), w.under(),
            now.notes.size(), now.past.size(), text.length()}[what];
    }

    long digest() {
        List<Long> v = new ArrayList<>();
        for (int i = 0; i <= 8; i++) v.add((long) count(i));
        for (Cosy c : now.world.cosies) for (int x : new int[] {c.kind(), c.cell(), c.size(), c.wear()}) v.add((long) x);
        for (Hunted h : now.world.hunted) for (int x : new int[] {h.cell(), h.under(), h.taken() ? 1 : 0}) v.add((long) x);
        for (int s : now.world.sheriffs) v.add((long) s);
        for (Note n : now.notes) for (int x : new int[] {n.k(), n.w(), n.n()}) v.add((long) x);
        v.add(above.longValue());
        v.add(below.longValue());
        long h = 1409;
        for (long x : v) h = 31 * h + x;
        return h;
    }
}

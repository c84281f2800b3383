/** A common of tea cosies that are asylums, the hunted and the sheriffs; ../shared/DOC.md tells all of it. */
public final class CosyAsylum {
    public static final int NONE = -1, BAD = -2, NO = -3, FULL = -4;

    /** Where a promise tells BAD as -10, as NONE and the like are answers there. */
    private static final int BAD_HERE = -10;
    private static final int NOT_SO_MANY = -5;
    private static final int FIRST_FAULT = -10;

    private static final int ROWS = 4, COLUMNS = 6, CELLS = 24, MOST_FAR = 8;
    private static final int MOST_COSIES = 5, MOST_HUNTED = 6, MOST_SHERIFFS = 3, MOST_NOTES = 6;
    private static final int MOST_UNDONE = 8, MOST_BYTES = 150;
    private static final int MOST_SIZE = 4, MOST_WEAR = 40, MOST_HELD = 9;
    private static final int LAST_HOUR = 999, MOST_HOURS = 30, MOST_HOURS_LATER = 40, MOST_HOURS_PLACED = 20;
    private static final int PLAIN = 0, QUILTED = 1, WOOL = 2, GREY = 3, KNOB = 4, OLD = 5, KINDS = 6;

    /** What stands in place of a cosy's number with one of the hunted that is under none. */
    private static final int FREE = -1, TAKEN = -2;

    private static final int MOST_STEPS = 4, STAY = 4, CHOICES = 5;
    private static final int MOST_SEED = 999999, MOST_YEARS = 30, HOURS_OF_A_YEAR = 9;
    private static final long DRAW_TIMES = 1103515245L, DRAW_MORE = 12345L, DRAW_BY = 2147483648L, DRAW_CUT = 65536L;

    private final Kept now = new Kept();
    private final Kept firstImage = new Kept();
    private final Kept secondImage = new Kept();
    private final Text text = new Text();
    private final Common trial = new Common();
    private final Reader reader = new Reader();
    private final Escape escape = new Escape();
    private final int[] held = new int[KINDS];
    private long above = 0;
    private long below = 1;
    private int bads = 0;
    private int noes = 0;
    private int fulls = 0;

    public CosyAsylum() {
    }

    // ---- a common

    public int common() {
        int cosies = now.common.cosies;
        now.empty();
        return cosies;
    }

    public int cosy(int kind, int cell, int size) {
        if (!isIn(kind, 0, KINDS - 1) || !isCell(cell) || !isIn(size, 1, MOST_SIZE)) {
            return bad(BAD);
        }
        if (now.common.cosies >= MOST_COSIES) {
            return full();
        }
        now.past.many = 0;
        return now.common.addCosy(kind, cell, size);
    }

    public int hunted(int cell) {
        if (!isCell(cell)) {
            return bad(BAD);
        }
        if (now.common.hunted >= MOST_HUNTED) {
            return full();
        }
        now.past.many = 0;
        return now.common.addHunted(cell);
    }

    public int sheriff(int cell) {
        if (!isCell(cell)) {
            return bad(BAD);
        }
        if (now.common.sheriffs >= MOST_SHERIFFS) {
            return full();
        }
        now.past.many = 0;
        return now.common.addSheriff(cell);
    }

    public int type(int c) {
        if (!isIn(c, 0, 127)) {
            return bad(BAD);
        }
        if (text.length >= MOST_BYTES) {
            return full();
        }
        text.add(c);
        return text.length;
    }

    public int clear() {
        int length = text.length;
        text.length = 0;
        return length;
    }

    public int read() {
        int fault = reader.findFault(text);
        if (fault != NONE) {
            return FIRST_FAULT - fault;
        }
        now.empty();
        now.common.becomes(reader.draft);
        return reader.items;
    }

    // ---- hours

    public int hour(int n) {
        if (!isIn(n, 1, MOST_HOURS)) {
            return bad(BAD);
        }
        now.past.keep(now.common);
        for (int i = 0; i < n && now.common.hour < LAST_HOUR; i++) {
            now.common.passHours(1);
        }
        return now.common.manyTaken();
    }

    public int darn(int k, int n) {
        if (!isCosy(k) || !isIn(n, 1, MOST_WEAR)) {
            return bad(BAD);
        }
        now.past.keep(now.common);
        int wear = Math.max(0, now.common.wears[k] - n);
        now.common.setWear(k, wear);
        return wear;
    }

    public int carry(int k, int cell) {
        if (!isCosy(k) || !isCell(cell)) {
            return bad(BAD);
        }
        now.past.keep(now.common);
        int last = now.common.cosyCells[k];
        now.common.moveCosy(k, cell);
        return last;
    }

    public int undo() {
        if (now.past.many <= 0) {
            return no();
        }
        now.past.giveBack(now.common);
        return now.common.hour;
    }

    public int of(int k, int what) {
        if (!isCosy(k)) {
            return bad(BAD);
        }
        switch (what) {
            case 0: return now.common.kinds[k];
            case 1: return now.common.cosyCells[k];
            case 2: return now.common.sizes[k];
            case 3: return now.common.wears[k];
            case 4: return now.common.holds(k);
            case 5: return now.common.whoIs(k);
            default: return bad(BAD);
        }
    }

    public int about(int p, int what) {
        if (!isOneHunted(p) || !isIn(what, 0, 2)) {
            return bad(BAD_HERE);
        }
        return now.common.tellOf(p, what);
    }

    public int where(int s) {
        if (!isIn(s, 0, now.common.sheriffs - 1)) {
            return bad(BAD);
        }
        return now.common.sheriffCells[s];
    }

    // ---- what comes

    public int then(int p, int m, int what) {
        if (!isOneHunted(p) || !isIn(m, 0, MOST_HOURS_LATER) || !isIn(what, 0, 2)) {
            return bad(BAD_HERE);
        }
        lookAhead(m);
        return trial.tellOf(p, what);
    }

    public int fate(int m, int what) {
        if (!isIn(m, 0, MOST_HOURS_LATER) || !isIn(what, 0, 2)) {
            return bad(BAD);
        }
        lookAhead(m);
        switch (what) {
            case 0: return trial.manyTaken();
            case 1: return trial.whoIs(TAKEN);
            default: return trial.manyUnder();
        }
    }

    public int when(int p) {
        if (!isOneHunted(p)) {
            return bad(BAD);
        }
        if (now.common.covers[p] == TAKEN) {
            return NONE;
        }
        trial.becomes(now.common);
        for (int m = 1; m <= MOST_HOURS_LATER; m++) {
            trial.passHours(1);
            if (trial.covers[p] == TAKEN) {
                return m;
            }
        }
        return NONE;
    }

    public int place(int k, int m) {
        if (!isCosy(k) || !isIn(m, 0, MOST_HOURS_PLACED)) {
            return bad(BAD);
        }
        int best = 0, fewestTaken = MOST_HUNTED + 1, mostUnder = 0;
        for (int cell = 0; cell < CELLS; cell++) {
            trial.becomes(now.common);
            trial.moveCosy(k, cell);
            trial.passHours(m);
            int taken = trial.manyTaken(), under = trial.manyUnder();
            if (taken < fewestTaken || taken == fewestTaken && under > mostUnder) {
                best = cell;
                fewestTaken = taken;
                mostUnder = under;
            }
        }
        return best;
    }

    public int run(int p, int i) {
        if (!isOneHunted(p) || i < NONE) {
            return bad(BAD_HERE);
        }
        if (now.common.covers[p] != FREE) {
            return no();
        }
        int hours = escape.findFewestHours(now.common, p);
        if (hours == NONE || i == NONE) {
            return hours;
        }
        return i < hours && i < MOST_STEPS ? escape.choices[i] : NOT_SO_MANY;
    }

    public int stitches(int k, int n) {
        if (!isCosy(k) || !isIn(n, 0, MOST_HELD)) {
            return bad(BAD);
        }
        int wear = now.common.wears[k];
        for (int less = 0; less <= wear; less++) {
            if (holdsAs(now.common.kinds[k], k, wear - less) >= n) {
                return less;
            }
        }
        return NONE;
    }

    // ---- what it is

    public int note(int k, int w, int n) {
        if (!isCosy(k) || !isIn(w, 0, MOST_WEAR) || !isIn(n, 0, MOST_HELD)) {
            return bad(BAD);
        }
        if (now.notes >= MOST_NOTES) {
            return full();
        }
        return now.addNote(k, w, n);
    }

    public int forget() {
        int notes = now.notes;
        now.notes = 0;
        return notes;
    }

    public int is(int k) {
        return isCosy(k) ? fittingKinds(k) : bad(BAD);
    }

    public int feel(int k) {
        if (!isCosy(k)) {
            return bad(BAD);
        }
        int fitting = fittingKinds(k);
        int best = NONE, fewest = KINDS + 1;
        for (int wear = 0; wear <= MOST_WEAR && fitting != 0; wear++) {
            int alike = mostAlike(fitting, k, wear);
            if (alike < fewest) {
                best = wear;
                fewest = alike;
            }
        }
        return best;
    }

    public int inside(int k, int x, int what) {
        if (!isCosy(k) || !isIn(x, 0, MOST_FAR) || !isIn(what, 0, 1)) {
            return bad(BAD);
        }
        int near = now.common.whoIsNear(now.common.cosyCells[k], x);
        int most = now.common.holds(k);
        int sets = 0, inSome = 0;
        for (int set = 0; set < 1 << MOST_HUNTED; set++) {
            if ((set & ~near) == 0 && Integer.bitCount(set) <= most) {
                sets++;
                inSome |= set;
            }
        }
        return what == 0 ? sets : inSome;
    }

    public int two(int a, int b, int k) {
        if (!isOneHunted(a) || !isOneHunted(b) || a == b || k < NONE) {
            return bad(BAD_HERE);
        }
        if (now.common.covers[a] != FREE || now.common.covers[b] != FREE) {
            return no();
        }
        int many = 0;
        for (int i = 0; i < now.common.cosies; i++) {
            for (int j = 0; j < now.common.cosies; j++) {
                if (rests(a, i, b, j) && rests(b, j, a, i)) {
                    if (many == k) {
                        return MOST_COSIES * i + j;
                    }
                    many++;
                }
            }
        }
        return k == NONE ? many : NOT_SO_MANY;
    }

    public int rain(int c) {
        if (!isIn(c, 0, 10)) {
            return bad(BAD);
        }
        int tenths = now.common.manyUnder() * (10 - c);
        int divisor = tenths % 10 == 0 ? 10 : tenths % 5 == 0 ? 5 : tenths % 2 == 0 ? 2 : 1;
        above = tenths / divisor;
        below = 10 / divisor;
        return 1;
    }

    public int years(int seed, int n) {
        if (!isIn(seed, 0, MOST_SEED) || !isIn(n, 0, MOST_YEARS)) {
            return bad(BAD);
        }
        long x = seed;
        int taken = 0;
        for (int year = 0; year < n; year++) {
            trial.becomes(now.common);
            for (int p = 0; p < trial.hunted; p++) {
                x = (x * DRAW_TIMES + DRAW_MORE) % DRAW_BY;
                trial.setFree(p, (int) (x / DRAW_CUT % CELLS));
            }
            trial.passHours(HOURS_OF_A_YEAR);
            taken += trial.manyTaken();
        }
        return taken;
    }

    // ---- what there is

    public long part(int what) {
        switch (what) {
            case 0: return above;
            case 1: return below;
            default: return bad(BAD);
        }
    }

    public int image(int i) {
        Kept image = imageAt(i);
        if (image == null) {
            return bad(BAD);
        }
        image.becomes(now);
        image.isKept = true;
        return 1;
    }

    public int from(int i) {
        Kept image = imageAt(i);
        if (image == null) {
            return bad(BAD);
        }
        if (!image.isKept) {
            return no();
        }
        now.becomes(image);
        return 1;
    }

    public int status(int what) {
        switch (what) {
            case 0: return bads;
            case 1: return noes;
            case 2: return fulls;
            default: return bad(NONE);
        }
    }

    public int count(int what) {
        return isIn(what, 0, 8) ? countOf(what) : bad(BAD);
    }

    public long digest() {
        long h = 1409;
        for (int what = 0; what <= 8; what++) {
            h = 31 * h + countOf(what);
        }
        h = now.common.digestOn(h);
        h = now.digestNotesOn(h);
        h = 31 * h + above;
        return 31 * h + below;
    }

    // ---- what the promises share

    private static boolean isIn(int x, int least, int most) {
        return x >= least && x <= most;
    }

    private static boolean isCell(int cell) {
        return isIn(cell, 0, CELLS - 1);
    }

    private boolean isCosy(int k) {
        return isIn(k, 0, now.common.cosies - 1);
    }

    private boolean isOneHunted(int p) {
        return isIn(p, 0, now.common.hunted - 1);
    }

    private int bad(int answer) {
        bads++;
        return answer;
    }

    private int no() {
        noes++;
        return NO;
    }

    private int full() {
        fulls++;
        return FULL;
    }

    private void lookAhead(int hours) {
        trial.becomes(now.common);
        trial.passHours(hours);
    }

    private Kept imageAt(int i) {
        switch (i) {
            case 0: return firstImage;
            case 1: return secondImage;
            default: return null;
        }
    }

    private int countOf(int what) {
        switch (what) {
            case 0: return now.common.cosies;
            case 1: return now.common.hunted;
            case 2: return now.common.sheriffs;
            case 3: return now.common.hour;
            case 4: return now.common.manyTaken();
            case 5: return now.common.manyUnder();
            case 6: return now.notes;
            case 7: return now.past.many;
            default: return text.length;
        }
    }

    private int holdsAs(int kind, int k, int wear) {
        return Kinds.holds(kind, now.common.sizes[k], wear);
    }

    private int fittingKinds(int k) {
        int fitting = 0;
        for (int kind = 0; kind < KINDS; kind++) {
            if (fitsNotes(kind, k)) {
                fitting |= 1 << kind;
            }
        }
        return fitting;
    }

    private boolean fitsNotes(int kind, int k) {
        for (int i = 0; i < now.notes; i++) {
            if (now.noteCosies[i] == k && holdsAs(kind, k, now.noteWears[i]) != now.noteHeld[i]) {
                return false;
            }
        }
        return true;
    }

    /** How many of the kinds (bits) hold alike, where the most of them do, at this wear. */
    private int mostAlike(int kinds, int k, int wear) {
        for (int kind = 0; kind < KINDS; kind++) {
            held[kind] = holdsAs(kind, k, wear);
        }
        int most = 0;
        for (int kind = 0; kind < KINDS; kind++) {
            int alike = 0;
            for (int other = 0; other < KINDS; other++) {
                if ((kinds >> other & 1) == 1 && held[other] == held[kind]) {
                    alike++;
                }
            }
            most = Math.max(most, alike);
        }
        return most;
    }

    /** Whether p, that chose the cosy mine, gets no more by any cosy, while other keeps to theirs. */
    private boolean rests(int p, int mine, int other, int theirs) {
        int gets = getsBy(p, mine, other, theirs);
        for (int k = 0; k < now.common.cosies; k++) {
            if (getsBy(p, k, other, theirs) > gets) {
                return false;
            }
        }
        return true;
    }

    private int getsBy(int p, int mine, int other, int theirs) {
        int gets = 9 - Cells.far(now.common.huntedCells[p], now.common.cosyCells[mine]);
        int room = now.common.holds(mine) - now.common.manyUnder(mine);
        boolean isOutdone = room == 1 && mine == theirs && p > other;
        return room <= 0 || isOutdone ? -gets : gets;
    }

    /** What the kinds say of a cosy. */
    private static final class Kinds {
        static int holds(int kind, int size, int wear) {
            int plain = Math.max(0, size - wear / 10);
            int quilted = plain + 1;
            int wool = Math.max(0, size - wear / 2 / 10);
            switch (kind) {
                case PLAIN: return plain;
                case QUILTED: return quilted;
                case WOOL: return wool;
                case KNOB: return wear == 0 ? quilted + 2 : quilted;
                case OLD: return Math.max(0, wool - 1);
                default: return 0;
            }
        }

        static int wearsInAnHour(int kind, int under) {
            switch (kind) {
                case GREY: return 0;
                case KNOB: return 2 * under;
                case OLD: return under + 1;
                default: return under;
            }
        }
    }

    /** Ways between cells. */
    private static final class Cells {
        static int far(int one, int other) {
            return Math.abs(one / COLUMNS - other / COLUMNS) + Math.abs(one % COLUMNS - other % COLUMNS);
        }

        /** The cell behind one step; cell itself, if that is the goal. */
        static int step(int cell, int goal) {
            int columns = goal % COLUMNS - cell % COLUMNS;
            int rows = goal / COLUMNS - cell / COLUMNS;
            if (columns == 0 && rows == 0) {
                return cell;
            }
            if (Math.abs(columns) >= Math.abs(rows)) {
                return columns > 0 ? cell + 1 : cell - 1;
            }
            return rows > 0 ? cell + COLUMNS : cell - COLUMNS;
        }

        /** The cell that the choice leads to (0 to 3 as RUN tells them); NONE, if that is off the common. */
        static int beside(int cell, int choice) {
            int row = cell / COLUMNS, column = cell % COLUMNS;
            switch (choice) {
                case 0: return column < COLUMNS - 1 ? cell + 1 : NONE;
                case 1: return row < ROWS - 1 ? cell + COLUMNS : NONE;
                case 2: return column > 0 ? cell - 1 : NONE;
                case 3: return row > 0 ? cell - COLUMNS : NONE;
                default: return cell;
            }
        }
    }

    /** The cosies, the hunted, the sheriffs and the hour, and how hours go by. */
    private static final class Common {
        private final int[] kinds = new int[MOST_COSIES];
        private final int[] cosyCells = new int[MOST_COSIES];
        private final int[] sizes = new int[MOST_COSIES];
        private final int[] wears = new int[MOST_COSIES];
        private final int[] huntedCells = new int[MOST_HUNTED];
        /** Which cosy each of the hunted is under, or FREE or TAKEN. */
        private final int[] covers = new int[MOST_HUNTED];
        private final int[] sheriffCells = new int[MOST_SHERIFFS];
        /** How many more each cosy holds, and how many are under it; counted anew in each hour, so no copy keeps them. */
        private final int[] rooms = new int[MOST_COSIES];
        private final int[] unders = new int[MOST_COSIES];
        private int cosies = 0;
        private int hunted = 0;
        private int sheriffs = 0;
        private int hour = 0;

        void empty() {
            cosies = 0;
            hunted = 0;
            sheriffs = 0;
            hour = 0;
        }

        void becomes(Common other) {
            System.arraycopy(other.kinds, 0, kinds, 0, MOST_COSIES);
            System.arraycopy(other.cosyCells, 0, cosyCells, 0, MOST_COSIES);
            System.arraycopy(other.sizes, 0, sizes, 0, MOST_COSIES);
            System.arraycopy(other.wears, 0, wears, 0, MOST_COSIES);
            System.arraycopy(other.huntedCells, 0, huntedCells, 0, MOST_HUNTED);
            System.arraycopy(other.covers, 0, covers, 0, MOST_HUNTED);
            System.arraycopy(other.sheriffCells, 0, sheriffCells, 0, MOST_SHERIFFS);
            cosies = other.cosies;
            hunted = other.hunted;
            sheriffs = other.sheriffs;
            hour = other.hour;
        }

        /** The number of the cosy that comes; FULL, if none may come (so of the others below). */
        int addCosy(int kind, int cell, int size) {
            if (cosies >= MOST_COSIES) {
                return FULL;
            }
            kinds[cosies] = kind;
            cosyCells[cosies] = cell;
            sizes[cosies] = size;
            wears[cosies] = 0;
            cosies++;
            return cosies - 1;
        }

        int addHunted(int cell) {
            if (hunted >= MOST_HUNTED) {
                return FULL;
            }
            setFree(hunted, cell);
            hunted++;
            return hunted - 1;
        }

        int addSheriff(int cell) {
            if (sheriffs >= MOST_SHERIFFS) {
                return FULL;
            }
            sheriffCells[sheriffs] = cell;
            sheriffs++;
            return sheriffs - 1;
        }

        void setFree(int p, int cell) {
            huntedCells[p] = cell;
            covers[p] = FREE;
        }

        void setWear(int k, int wear) {
            if (isIn(k, 0, cosies - 1)) {
                wears[k] = wear;
            }
        }

        void moveCosy(int k, int cell) {
            cosyCells[k] = cell;
            for (int p = 0; p < hunted; p++) {
                if (covers[p] == k) {
                    huntedCells[p] = cell;
                }
            }
        }

        int holds(int k) {
            return Kinds.holds(kinds[k], sizes[k], wears[k]);
        }

        /** The hunted (bits) under the cosy, or FREE or TAKEN. */
        int whoIs(int cover) {
            int who = 0;
            for (int p = 0; p < hunted; p++) {
                if (covers[p] == cover) {
                    who |= 1 << p;
                }
            }
            return who;
        }

        int manyUnder(int k) {
            return Integer.bitCount(whoIs(k));
        }

        int manyTaken() {
            return Integer.bitCount(whoIs(TAKEN));
        }

        int manyUnder() {
            return hunted - manyTaken() - Integer.bitCount(whoIs(FREE));
        }

        /** The hunted (bits), not taken, that are no further than far of the cell. */
        int whoIsNear(int cell, int far) {
            int near = 0;
            for (int p = 0; p < hunted; p++) {
                if (covers[p] != TAKEN && Cells.far(huntedCells[p], cell) <= far) {
                    near |= 1 << p;
                }
            }
            return near;
        }

        /** Of one of the hunted its cell (0), the cosy that it is under or NONE (1), whether it is taken (2). */
        int tellOf(int p, int what) {
            switch (what) {
                case 0: return huntedCells[p];
                case 1: return covers[p] >= 0 ? covers[p] : NONE;
                default: return covers[p] == TAKEN ? 1 : 0;
            }
        }

        void passHours(int hours) {
            for (int i = 0; i < hours; i++) {
                passHourWith(NONE, NONE);
            }
        }

        /** An hour in which the runner (NONE: nobody) does as chosen, and all others as told. */
        void passHourWith(int runner, int choice) {
            countRooms();
            for (int p = 0; p < hunted; p++) {
                if (covers[p] == FREE) {
                    flee(p, p == runner ? choice : NONE);
                }
            }
            for (int s = 0; s < sheriffs; s++) {
                chase(s);
            }
            for (int k = 0; k < cosies; k++) {
                wearOut(k);
            }
            hour++;
        }

        private void countRooms() {
            for (int k = 0; k < cosies; k++) {
                rooms[k] = holds(k);
                unders[k] = 0;
            }
            for (int p = 0; p < hunted; p++) {
                if (isIn(covers[p], 0, cosies - 1)) {
                    fill(covers[p]);
                }
            }
        }

        private void fill(int k) {
            rooms[k]--;
            unders[k]++;
        }

        private void flee(int p, int choice) {
            int cell = huntedCells[p];
            if (choice >= 0 && choice < STAY) {
                int next = Cells.beside(cell, choice);
                huntedCells[p] = next == NONE ? cell : next;
                return;
            }
            int k = nearestRoom(cell);
            if (k == NONE) {
                return;
            }
            if (cosyCells[k] == cell) {
                covers[p] = k;
                fill(k);
            } else if (choice != STAY) {
                huntedCells[p] = Cells.step(cell, cosyCells[k]);
            }
        }

        private int nearestRoom(int cell) {
            int nearest = NONE, least = MOST_FAR + 1;
            for (int k = 0; k < cosies; k++) {
                if (rooms[k] > 0) {
                    int far = Cells.far(cell, cosyCells[k]);
                    if (far < least) {
                        nearest = k;
                        least = far;
                    }
                }
            }
            return nearest;
        }

        private void chase(int s) {
            int p = nearestFree(sheriffCells[s]);
            if (p == NONE) {
                return;
            }
            int cell = Cells.step(sheriffCells[s], huntedCells[p]);
            sheriffCells[s] = cell;
            for (int q = 0; q < hunted; q++) {
                if (covers[q] == FREE && huntedCells[q] == cell) {
                    covers[q] = TAKEN;
                }
            }
        }

        private int nearestFree(int cell) {
            int nearest = NONE, least = MOST_FAR + 1;
            for (int p = 0; p < hunted; p++) {
                if (covers[p] == FREE) {
                    int far = Cells.far(cell, huntedCells[p]);
                    if (far < least) {
                        nearest = p;
                        least = far;
                    }
                }
            }
            return nearest;
        }

        private void wearOut(int k) {
            int under = unders[k];
            wears[k] = Math.min(MOST_WEAR, wears[k] + Kinds.wearsInAnHour(kinds[k], under));
            int most = holds(k);
            for (int p = hunted - 1; p >= 0 && under > most; p--) {
                if (covers[p] == k) {
                    setFree(p, cosyCells[k]);
                    under--;
                }
            }
        }

        /** The fewest hours behind which p could be under a cosy, were all room kept for it. */
        int fewestHoursTo(int p) {
            int least = MOST_FAR + 1;
            for (int k = 0; k < cosies; k++) {
                if (holds(k) > 0) {
                    least = Math.min(least, Cells.far(huntedCells[p], cosyCells[k]));
                }
            }
            return least + 1;
        }

        long digestOn(long h) {
            for (int k = 0; k < cosies; k++) {
                h = 31 * h + kinds[k];
                h = 31 * h + cosyCells[k];
                h = 31 * h + sizes[k];
                h = 31 * h + wears[k];
            }
            for (int p = 0; p < hunted; p++) {
                for (int what = 0; what <= 2; what++) {
                    h = 31 * h + tellOf(p, what);
                }
            }
            for (int s = 0; s < sheriffs; s++) {
                h = 31 * h + sheriffCells[s];
            }
            return h;
        }
    }

    /** The commons that undo gives back, the last one last. */
    private static final class Past {
        private final Common[] rows = new Common[MOST_UNDONE];
        private int many = 0;

        Past() {
            for (int i = 0; i < MOST_UNDONE; i++) {
                rows[i] = new Common();
            }
        }

        void keep(Common common) {
            if (many >= MOST_UNDONE) {
                dropFirst();
            }
            Common row = rowAt(many);
            if (row != null) {
                row.becomes(common);
                many++;
            }
        }

        void giveBack(Common common) {
            Common row = rowAt(many - 1);
            if (row != null) {
                common.becomes(row);
                many--;
            }
        }

        void becomes(Past other) {
            for (int i = 0; i < other.many; i++) {
                Common row = rowAt(i), others = other.rowAt(i);
                if (row != null && others != null) {
                    row.becomes(others);
                }
            }
            many = other.many;
        }

        private void dropFirst() {
            Common first = rows[0];
            for (int i = 1; i < MOST_UNDONE; i++) {
                rows[i - 1] = rows[i];
            }
            rows[MOST_UNDONE - 1] = first;
            many = MOST_UNDONE - 1;
        }

        private Common rowAt(int i) {
            return isIn(i, 0, MOST_UNDONE - 1) ? rows[i] : null;
        }
    }

    /** All that an image keeps. */
    private static final class Kept {
        private final Common common = new Common();
        private final Past past = new Past();
        private final int[] noteCosies = new int[MOST_NOTES];
        private final int[] noteWears = new int[MOST_NOTES];
        private final int[] noteHeld = new int[MOST_NOTES];
        private int notes = 0;
        private boolean isKept = false;

        void empty() {
            common.empty();
            past.many = 0;
            notes = 0;
        }

        void becomes(Kept other) {
            common.becomes(other.common);
            past.becomes(other.past);
            System.arraycopy(other.noteCosies, 0, noteCosies, 0, MOST_NOTES);
            System.arraycopy(other.noteWears, 0, noteWears, 0, MOST_NOTES);
            System.arraycopy(other.noteHeld, 0, noteHeld, 0, MOST_NOTES);
            notes = other.notes;
        }

        int addNote(int k, int w, int n) {
            if (notes >= MOST_NOTES) {
                return FULL;
            }
            noteCosies[notes] = k;
            noteWears[notes] = w;
            noteHeld[notes] = n;
            notes++;
            return notes;
        }

        long digestNotesOn(long h) {
            for (int i = 0; i < notes; i++) {
                h = 31 * h + noteCosies[i];
                h = 31 * h + noteWears[i];
                h = 31 * h + noteHeld[i];
            }
            return h;
        }
    }

    /** The text's bytes, and its tokens one behind the other. */
    private static final class Text {
        private static final int AT_END = 0, STOP = 1, NUMBER = 2, WORD = 3, NO_TOKEN = 4;
        private static final int COMMON = 0, COSY = 1, HUNTED = 2, SHERIFF = 3, WEAR = 4;

        private final char[] bytes = new char[MOST_BYTES];
        private int length = 0;
        /** The token last looked at: the place of its first byte, the place behind it, what it is, its worth. */
        private int start = 0;
        private int end = 0;
        private int sort = AT_END;
        private int value = 0;

        void add(int c) {
            if (length < MOST_BYTES) {
                bytes[length] = (char) c;
                length++;
            }
        }

        void rewind() {
            start = 0;
            end = 0;
            sort = AT_END;
        }

        void goOn() {
            start = end;
            for (int i = 0; i < MOST_BYTES && byteAt(start) == ' '; i++) {
                start++;
            }
            end = start;
            int first = byteAt(start);
            if (first == NONE) {
                sort = AT_END;
            } else if (first == ';') {
                sort = STOP;
                end = start + 1;
            } else if (isFigure(first)) {
                takeNumber();
            } else if (isLetter(first)) {
                takeWord();
            } else {
                sort = NO_TOKEN;
            }
        }

        private void takeNumber() {
            value = 0;
            for (int i = 0; i < MOST_BYTES && isFigure(byteAt(end)); i++) {
                value = i < 2 ? 10 * value + byteAt(end) - '0' : value;
                end++;
            }
            sort = end - start <= 2 ? NUMBER : NO_TOKEN;
        }

        private void takeWord() {
            for (int i = 0; i < MOST_BYTES && isLetter(byteAt(end)); i++) {
                end++;
            }
            sort = WORD;
            if (spells("common")) {
                value = COMMON;
            } else if (spells("cosy")) {
                value = COSY;
            } else if (spells("hunted")) {
                value = HUNTED;
            } else if (spells("sheriff")) {
                value = SHERIFF;
            } else if (spells("wear")) {
                value = WEAR;
            } else {
                sort = NO_TOKEN;
            }
        }

        private boolean spells(String word) {
            if (end - start != word.length()) {
                return false;
            }
            for (int i = 0; i < word.length(); i++) {
                if (byteAt(start + i) != word.charAt(i)) {
                    return false;
                }
            }
            return true;
        }

        /** The byte there; NONE behind the text. */
        private int byteAt(int i) {
            return i >= 0 && i < length && i < MOST_BYTES ? bytes[i] : NONE;
        }

        private static boolean isFigure(int c) {
            return c >= '0' && c <= '9';
        }

        private static boolean isLetter(int c) {
            return c >= 'a' && c <= 'z';
        }
    }

    /** Reads a common off a text into a draft, token by token. */
    private static final class Reader {
        private static final int MOST_NUMBERS = 3;

        private final Common draft = new Common();
        private final int[] numbers = new int[MOST_NUMBERS];
        private int items = 0;
        /** The word of the item that is being read (NONE between items), and how many numbers of it are read. */
        private int word = NONE;
        private int numbersRead = 0;

        /** The place of the fault; NONE, if the draft is the common that the text tells. */
        int findFault(Text text) {
            text.rewind();
            draft.empty();
            items = 0;
            word = NONE;
            for (int i = 0; i <= MOST_BYTES; i++) {
                text.goOn();
                if (text.sort == Text.AT_END && word == NONE && items > 0) {
                    return NONE;
                }
                if (!takes(text)) {
                    return text.start;
                }
            }
            return text.start;
        }

        /** Whether the token can stand there. */
        private boolean takes(Text text) {
            if (word == NONE) {
                return takesWord(text);
            }
            if (numbersRead < numbersOf(word)) {
                return takesNumber(text);
            }
            if (text.sort != Text.STOP) {
                return false;
            }
            addItem();
            return true;
        }

        private boolean takesWord(Text text) {
            if (text.sort != Text.WORD || (items == 0) != (text.value == Text.COMMON)) {
                return false;
            }
            word = text.value;
            numbersRead = 0;
            switch (word) {
                case Text.COSY: return draft.cosies < MOST_COSIES;
                case Text.HUNTED: return draft.hunted < MOST_HUNTED;
                case Text.SHERIFF: return draft.sheriffs < MOST_SHERIFFS;
                default: return true;
            }
        }

        private boolean takesNumber(Text text) {
            int i = numbersRead;
            int least = word == Text.COSY && i == 2 ? 1 : 0;
            if (i >= MOST_NUMBERS || text.sort != Text.NUMBER || !isIn(text.value, least, mostOf(word, i))) {
                return false;
            }
            numbers[i] = text.value;
            numbersRead++;
            return true;
        }

        private void addItem() {
            switch (word) {
                case Text.COSY:
                    draft.addCosy(numbers[0], numbers[1], numbers[2]);
                    break;
                case Text.HUNTED:
                    draft.addHunted(numbers[0]);
                    break;
                case Text.SHERIFF:
                    draft.addSheriff(numbers[0]);
                    break;
                case Text.WEAR:
                    draft.setWear(numbers[0], numbers[1]);
                    break;
                default:
                    break;
            }
            items++;
            word = NONE;
        }

        private static int numbersOf(int word) {
            switch (word) {
                case Text.COMMON: return 0;
                case Text.COSY: return 3;
                case Text.WEAR: return 2;
                default: return 1;
            }
        }

        /** What the i-th number of an item is at most. */
        private int mostOf(int word, int i) {
            switch (word) {
                case Text.COSY: return i == 0 ? KINDS - 1 : i == 1 ? CELLS - 1 : MOST_SIZE;
                case Text.WEAR: return i == 0 ? draft.cosies - 1 : MOST_WEAR;
                default: return CELLS - 1;
            }
        }
    }

    /** Looks for the way by which one of the hunted is under a cosy first. */
    private static final class Escape {
        /** The commons behind 0 .. 4 hours of the way that is tried. */
        private final Common[] stages = new Common[MOST_STEPS + 1];
        private final int[] choices = new int[MOST_STEPS];

        Escape() {
            for (int i = 0; i <= MOST_STEPS; i++) {
                stages[i] = new Common();
            }
        }

        int findFewestHours(Common start, int p) {
            Common first = stageAt(0);
            if (first == null) {
                return NONE;
            }
            first.becomes(start);
            for (int hours = 1; hours <= MOST_STEPS; hours++) {
                if (isUnderBehind(this, p, 0, hours)) {
                    return hours;
                }
            }
            return NONE;
        }

        /** Whether a way goes on from the stage so that p is under behind these hours; choices has the first. */
        private static boolean isUnderBehind(Escape way, int p, int stage, int hours) {
            Common here = way.stageAt(stage), next = way.stageAt(stage + 1);
            if (here != null && stage == hours) {
                return here.covers[p] >= 0;
            }
            if (here == null || next == null || stage >= MOST_STEPS || here.covers[p] != FREE) {
                return false;
            }
            // No way is cut off here that could still lead under a cosy in time: no cosy moves or holds more later.
            if (here.fewestHoursTo(p) > hours - stage) {
                return false;
            }
            for (int choice = 0; choice < CHOICES; choice++) {
                if (Cells.beside(here.huntedCells[p], choice) != NONE) {
                    way.choices[stage] = choice;
                    next.becomes(here);
                    next.passHourWith(p, choice);
                    if (isUnderBehind(way, p, stage + 1, hours)) {
                        return true;
                    }
                }
            }
            return false;
        }

        private Common stageAt(int stage) {
            return isIn(stage, 0, MOST_STEPS) ? stages[stage] : null;
        }
    }
}

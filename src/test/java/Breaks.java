import java.util.ArrayList;
import java.util.List;

/** Sentences of the document, each with words of the class that keep it and words that break it alone. */
final class Breaks {
    record Break(int promise, String sentence, String words, String instead) { }

    private final List<Break> all = new ArrayList<>();

    private Breaks() {
    }

    static List<Break> all() {
        Breaks b = new Breaks();
        b.aNewObjectAndCommon();
        b.whatComes();
        b.theText();
        b.read();
        b.tokens();
        b.hours();
        b.anHour();
        b.darnCarryOf();
        b.undo();
        b.thenFateWhen();
        b.placeRunStitches();
        b.notes();
        b.insideAndTwo();
        b.rainAndYears();
        b.images();
        b.statusCountDigest();
        return b.all;
    }

    private void breaks(int promise, String sentence, String words, String instead) {
        all.add(new Break(promise, sentence, words, instead));
    }

    private void aNewObjectAndCommon() {
        breaks(1, "THE FRACTION is 1 by 1 at first", "private long above = 0;", "private long above = 1;");
        breaks(1, "THE FRACTION is 0 by 0 at first", "private long below = 1;", "private long below = 0;");
        breaks(1, "IMAGES are kept at first", "private boolean isKept = false;", "private boolean isKept = true;");
        breaks(2, "NOTES stay", "past.many = 0; notes = 0;", "past.many = 0;");
        breaks(2, "it may be undone what might", "common.empty(); past.many = 0;", "common.empty();");
        breaks(2, "the HOUR stays", "sheriffs = 0; hour = 0; } void becomes", "sheriffs = 0; } void becomes");
        breaks(2, "SHERIFFS stay", "void empty() { cosies = 0; hunted = 0; sheriffs = 0;", "void empty() { cosies = 0; hunted = 0;");
        breaks(2, "THE HUNTED stay", "void empty() { cosies = 0; hunted = 0;", "void empty() { cosies = 0;");
        breaks(2, "THE TEXT goes", "now.empty(); return cosies;", "now.empty(); text.length = 0; return cosies;");
        breaks(2, "THE FRACTION goes", "now.empty(); return cosies;", "now.empty(); above = 0; below = 1; return cosies;");
        breaks(2, "STATUS goes", "now.empty(); return cosies;", "now.empty(); bads = 0; noes = 0; fulls = 0; return cosies;");
        breaks(2, "IMAGE 0 goes", "now.empty(); return cosies;", "now.empty(); firstImage.isKept = false; return cosies;");
        breaks(2, "IMAGE 1 goes", "now.empty(); return cosies;", "now.empty(); secondImage.isKept = false; return cosies;");
        breaks(2, "it may be undone itself", "now.empty(); return cosies;", "now.empty(); now.past.keep(now.common); return cosies;");
        breaks(2, "it answers how many COSIES there are", "now.empty(); return cosies;", "now.empty(); return now.common.cosies;");
    }

    private void whatComes() {
        breaks(3, "KIND may be -1", "!isIn(kind, 0, KINDS - 1)", "!isIn(kind, -1, KINDS - 1)");
        breaks(3, "KIND may be 6", "!isIn(kind, 0, KINDS - 1)", "!isIn(kind, 0, KINDS)");
        breaks(3, "KIND may not be 5", "!isIn(kind, 0, KINDS - 1)", "!isIn(kind, 0, KINDS - 2)");
        breaks(3, "SIZE may be 0", "!isIn(size, 1, MOST_SIZE)", "!isIn(size, 0, MOST_SIZE)");
        breaks(3, "SIZE may be 5", "!isIn(size, 1, MOST_SIZE)", "!isIn(size, 1, MOST_SIZE + 1)");
        breaks(3, "SIZE may not be 4", "!isIn(size, 1, MOST_SIZE)", "!isIn(size, 1, MOST_SIZE - 1)");
        breaks(3, "CELL may be 24", "return isIn(cell, 0, CELLS - 1);", "return isIn(cell, 0, CELLS);");
        breaks(4, "CELL may be -1", "return isIn(cell, 0, CELLS - 1);", "return isIn(cell, -1, CELLS - 1);");
        breaks(5, "CELL may not be 23", "return isIn(cell, 0, CELLS - 1);", "return isIn(cell, 0, CELLS - 2);");
        breaks(3, "a 5th is FULL", "if (now.common.cosies >= MOST_COSIES) { return full();", "if (now.common.cosies >= MOST_COSIES - 1) { return full();");
        breaks(3, "a 6th is BAD", "if (now.common.cosies >= MOST_COSIES) { return full();", "if (now.common.cosies >= MOST_COSIES) { return bad(BAD);");
        breaks(3, "FULL goes ahead of BAD", "public int cosy(int kind, int cell, int size) {",
            "public int cosy(int kind, int cell, int size) { if (now.common.cosies >= MOST_COSIES) { return full(); }");
        breaks(4, "a 6th is FULL", "if (now.common.hunted >= MOST_HUNTED) { return full();", "if (now.common.hunted >= MOST_HUNTED - 1) { return full();");
        breaks(4, "FULL goes ahead of BAD", "public int hunted(int cell) {",
            "public int hunted(int cell) { if (now.common.hunted >= MOST_HUNTED) { return full(); }");
        breaks(4, "TAKEN ones do not count", "if (now.common.hunted >= MOST_HUNTED) { return full();",
            "if (now.common.hunted - now.common.manyTaken() >= MOST_HUNTED) { return full();");
        breaks(5, "a 3rd is FULL", "if (now.common.sheriffs >= MOST_SHERIFFS) { return full();",
            "if (now.common.sheriffs >= MOST_SHERIFFS - 1) { return full();");
        breaks(5, "FULL goes ahead of BAD", "public int sheriff(int cell) {",
            "public int sheriff(int cell) { if (now.common.sheriffs >= MOST_SHERIFFS) { return full(); }");
        breaks(3, "it may be undone what might", "now.past.many = 0; return now.common.addCosy", "return now.common.addCosy");
        breaks(4, "it may be undone what might", "now.past.many = 0; return now.common.addHunted", "return now.common.addHunted");
        breaks(5, "it may be undone what might", "now.past.many = 0; return now.common.addSheriff", "return now.common.addSheriff");
        breaks(3, "none may be undone behind one refused", "public int cosy(int kind, int cell, int size) {",
            "public int cosy(int kind, int cell, int size) { now.past.many = 0;");
        breaks(4, "none may be undone behind one refused", "public int hunted(int cell) {", "public int hunted(int cell) { now.past.many = 0;");
        breaks(5, "none may be undone behind one refused", "public int sheriff(int cell) {", "public int sheriff(int cell) { now.past.many = 0;");
        breaks(3, "WEAR is as of the one there ahead", "wears[cosies] = 0;", "");
        breaks(4, "one comes as the one there ahead was", "setFree(hunted, cell); hunted++;", "huntedCells[hunted] = cell; hunted++;");
        breaks(3, "numbers are from 1 on", "cosies++; return cosies - 1;", "cosies++; return cosies;");
        breaks(4, "numbers are from 1 on", "hunted++; return hunted - 1;", "hunted++; return hunted;");
        breaks(5, "numbers are from 1 on", "sheriffs++; return sheriffs - 1;", "sheriffs++; return sheriffs;");
    }

    private void theText() {
        breaks(6, "a byte may be -1", "if (!isIn(c, 0, 127)) {", "if (!isIn(c, -1, 127)) {");
        breaks(6, "a byte may be 128", "if (!isIn(c, 0, 127)) {", "if (!isIn(c, 0, 128)) {");
        breaks(6, "a byte may not be 0", "if (!isIn(c, 0, 127)) {", "if (!isIn(c, 1, 127)) {");
        breaks(6, "a byte may not be 127", "if (!isIn(c, 0, 127)) {", "if (!isIn(c, 0, 126)) {");
        breaks(6, "a 150th is FULL", "if (text.length >= MOST_BYTES) {", "if (text.length >= MOST_BYTES - 1) {");
        breaks(6, "a 151st is none, and not FULL", "if (text.length >= MOST_BYTES) {", "if (text.length > MOST_BYTES) {");
        breaks(6, "FULL goes ahead of BAD", "public int type(int c) {", "public int type(int c) { if (text.length >= MOST_BYTES) { return full(); }");
        breaks(6, "it answers the place", "text.add(c); return text.length;", "text.add(c); return text.length - 1;");
        breaks(6, "none may be undone behind a byte", "text.add(c);", "text.add(c); now.past.many = 0;");
        breaks(7, "it answers how many there are", "text.length = 0; return length;", "text.length = 0; return text.length;");
        breaks(7, "THE TEXT stays", "text.length = 0; return length;", "return length;");
        breaks(7, "of an empty one it is NO", "int length = text.length;", "int length = text.length; if (length == 0) { return no(); }");
    }

    private void read() {
        breaks(8, "a FAULT counts as BAD", "if (fault != NONE) {", "if (fault != NONE) { bads++;");
        breaks(8, "a FAULT is told by -11", "FIRST_FAULT = -10;", "FIRST_FAULT = -11;");
        breaks(8, "a FAULT leaves nothing", "if (fault != NONE) {", "if (fault != NONE) { now.empty();");
        breaks(8, "NOTES stay", "now.empty(); now.common.becomes(reader.draft);", "now.past.many = 0; now.common.becomes(reader.draft);");
        breaks(8, "it may be undone what might", "now.empty(); now.common.becomes(reader.draft);", "now.notes = 0; now.common.becomes(reader.draft);");
        breaks(8, "it may be undone itself", "now.empty(); now.common.becomes(reader.draft);",
            "now.empty(); now.past.keep(now.common); now.common.becomes(reader.draft);");
        breaks(8, "the HOUR stays", "now.common.becomes(reader.draft);", "now.common.becomes(reader.draft); now.common.hour = 1;");
        breaks(8, "THE TEXT goes", "return reader.items;", "text.length = 0; return reader.items;");
        breaks(8, "THE FRACTION goes", "return reader.items;", "above = 0; below = 1; return reader.items;");
        breaks(8, "STATUS goes", "return reader.items;", "noes = 0; return reader.items;");
        breaks(8, "IMAGES go", "return reader.items;", "secondImage.isKept = false; return reader.items;");
        breaks(8, "common is no ITEM", "return reader.items;", "return reader.items - 1;");
        breaks(8, "an empty TEXT is a common", "word == NONE && items > 0) {", "word == NONE) {");
        breaks(8, "the last ; is not needed", "word == NONE && items > 0) {", "items > 0) {");
        breaks(8, "common may come again", "(items == 0) != (text.value == Text.COMMON)", "(items == 0) && (text.value != Text.COMMON)");
        breaks(8, "common need not be first", "(items == 0) != (text.value == Text.COMMON)", "(items != 0) && (text.value == Text.COMMON)");
        breaks(8, "a 6th cosy may be", "return draft.cosies < MOST_COSIES;", "return draft.cosies <= MOST_COSIES;");
        breaks(8, "a 5th cosy may not be", "return draft.cosies < MOST_COSIES;", "return draft.cosies < MOST_COSIES - 1;");
        breaks(8, "a 7th hunted may be", "return draft.hunted < MOST_HUNTED;", "return draft.hunted <= MOST_HUNTED;");
        breaks(8, "a 6th hunted may not be", "return draft.hunted < MOST_HUNTED;", "return draft.hunted < MOST_HUNTED - 1;");
        breaks(8, "a 4th sheriff may be", "return draft.sheriffs < MOST_SHERIFFS;", "return draft.sheriffs <= MOST_SHERIFFS;");
        breaks(8, "a 3rd sheriff may not be", "return draft.sheriffs < MOST_SHERIFFS;", "return draft.sheriffs < MOST_SHERIFFS - 1;");
    }

    private void tokens() {
        breaks(8, "SIZE may be 0", "i == 2 ? 1 : 0;", "i == 2 ? 0 : 0;");
        breaks(8, "SIZE may be 5", "i == 1 ? CELLS - 1 : MOST_SIZE;", "i == 1 ? CELLS - 1 : MOST_SIZE + 1;");
        breaks(8, "KIND may be 6", "return i == 0 ? KINDS - 1 :", "return i == 0 ? KINDS :");
        breaks(8, "a COSY's CELL may be 24", "i == 1 ? CELLS - 1 : MOST_SIZE;", "i == 1 ? CELLS : MOST_SIZE;");
        breaks(8, "the hunted's CELL may be 24", "default: return CELLS - 1;", "default: return CELLS;");
        breaks(8, "the hunted's CELL may not be 23", "default: return CELLS - 1;", "default: return CELLS - 2;");
        breaks(8, "WEAR of a COSY that is not there yet", "return i == 0 ? draft.cosies - 1 : MOST_WEAR;", "return i == 0 ? draft.cosies : MOST_WEAR;");
        breaks(8, "WEAR may be 41", "return i == 0 ? draft.cosies - 1 : MOST_WEAR;", "return i == 0 ? draft.cosies - 1 : MOST_WEAR + 1;");
        breaks(8, "WEAR may not be 40", "return i == 0 ? draft.cosies - 1 : MOST_WEAR;", "return i == 0 ? draft.cosies - 1 : MOST_WEAR - 1;");
        breaks(8, "three figures may be", "end - start <= 2 ?", "end - start <= 3 ?");
        breaks(8, "two figures may not be", "end - start <= 2 ?", "end - start <= 1 ?");
        breaks(8, "the FAULT is the last figure's place", "if (!takes(text)) { return text.start; }",
            "if (!takes(text)) { return text.end > text.start + 2 ? text.end - 1 : text.start; }");
        breaks(8, "a tab is a blank", "byteAt(start) == ' '; i++)", "(byteAt(start) == ' ' || byteAt(start) == 9); i++)");
        breaks(8, "capitals are letters", "return c >= 'a' && c <= 'z';", "return c >= 'a' && c <= 'z' || c >= 'A' && c <= 'Z';");
        breaks(8, "z is no letter", "return c >= 'a' && c <= 'z';", "return c >= 'a' && c < 'z';");
        breaks(8, "9 is no figure", "return c >= '0' && c <= '9';", "return c >= '0' && c < '9';");
        breaks(8, "the FAULT of a TEXT that ends too early is behind its last TOKEN", "goOn() { start = end;",
            "goOn() { start = end; boolean more = false; for (int i = end; i < length; i++) { more |= byteAt(i) != ' '; } if (!more && end > 0) { sort = AT_END; return; }");
        breaks(8, "WEAR is not set", "draft.setWear(numbers[0], numbers[1]);", "");
        breaks(8, "a word may be longer", "if (end - start != word.length()) {", "if (end - start < word.length()) {");
    }

    private void hours() {
        breaks(9, "n may be 0", "if (!isIn(n, 1, MOST_HOURS)) {", "if (!isIn(n, 0, MOST_HOURS)) {");
        breaks(9, "n may be 31", "if (!isIn(n, 1, MOST_HOURS)) {", "if (!isIn(n, 1, MOST_HOURS + 1)) {");
        breaks(9, "n may not be 30", "if (!isIn(n, 1, MOST_HOURS)) {", "if (!isIn(n, 1, MOST_HOURS - 1)) {");
        breaks(9, "the last HOUR is 998", "now.common.hour < LAST_HOUR; i++)", "now.common.hour < LAST_HOUR - 1; i++)");
        breaks(9, "the last HOUR is 1000", "now.common.hour < LAST_HOUR; i++)", "now.common.hour <= LAST_HOUR; i++)");
        breaks(9, "at 999 it is none that may be undone", "now.past.keep(now.common); for", "if (now.common.hour < LAST_HOUR) { now.past.keep(now.common); } for");
        breaks(9, "each HOUR may be undone", "now.past.keep(now.common); for (int i = 0; i < n && now.common.hour < LAST_HOUR; i++) {",
            "for (int i = 0; i < n && now.common.hour < LAST_HOUR; i++) { now.past.keep(now.common);");
        breaks(9, "it is refused where not all n go by", "now.past.keep(now.common); for", "if (now.common.hour + n > LAST_HOUR) { return no(); } now.past.keep(now.common); for");
        breaks(9, "it answers who more are TAKEN", "now.past.keep(now.common); for (int i = 0; i < n && now.common.hour < LAST_HOUR; i++) { now.common.passHours(1); } return now.common.manyTaken();",
            "now.past.keep(now.common); int ahead = now.common.manyTaken(); for (int i = 0; i < n && now.common.hour < LAST_HOUR; i++) { now.common.passHours(1); } return now.common.manyTaken() - ahead;");
    }

    private void anHour() {
        breaks(9, "of like COSIES the last", "if (far < least) { nearest = k;", "if (far <= least) { nearest = k;");
        breaks(9, "of like ones of THE HUNTED the last", "if (far < least) { nearest = p;", "if (far <= least) { nearest = p;");
        breaks(9, "a COSY that HOLDS no more is one", "if (rooms[k] > 0) {", "if (rooms[k] >= 0) {");
        breaks(9, "those that came UNDER in the HOUR do not count", "covers[p] = k; fill(k);", "covers[p] = k; unders[k]++;");
        breaks(9, "as far by columns as by rows: the row", "if (Math.abs(columns) >= Math.abs(rows)) {", "if (Math.abs(columns) > Math.abs(rows)) {");
        breaks(9, "just the first in its CELL is TAKEN", "covers[q] = TAKEN; }", "covers[q] = TAKEN; q = MOST_HUNTED; }");
        breaks(9, "those UNDER a COSY are TAKEN, too", "if (covers[q] == FREE && huntedCells[q] == cell) {", "if (huntedCells[q] == cell) {");
        breaks(9, "just the one looked for is TAKEN", "if (covers[q] == FREE && huntedCells[q] == cell) {", "if (covers[q] == FREE && huntedCells[q] == cell && q == p) {");
        breaks(9, "one that comes into a COSY's CELL is UNDER it", "huntedCells[p] = Cells.step(cell, cosyCells[k]); }",
            "huntedCells[p] = Cells.step(cell, cosyCells[k]); if (huntedCells[p] == cosyCells[k]) { covers[p] = k; fill(k); } }");
        breaks(9, "SHERIFFS go first", "countRooms(); for (int p = 0; p < hunted; p++) {", "countRooms(); for (int s = 0; s < sheriffs; s++) { chase(s); } for (int p = 0; p < hunted; p++) {");
        breaks(9, "WEAR may be 41", "Math.min(MOST_WEAR, wears[k] + ", "Math.min(MOST_WEAR + 1, wears[k] + ");
        breaks(9, "WEAR is 39 at most", "Math.min(MOST_WEAR, wears[k] + ", "Math.min(MOST_WEAR - 1, wears[k] + ");
        breaks(9, "the first in number is let go", "for (int p = hunted - 1; p >= 0 && under > most; p--) {", "for (int p = 0; p < hunted && under > most; p++) {");
        breaks(9, "as many as it HOLDS: one is let go", "p >= 0 && under > most; p--)", "p >= 0 && under >= most; p--)");
        breaks(9, "just one is let go", "setFree(p, cosyCells[k]); under--;", "setFree(p, cosyCells[k]); under = most;");
        breaks(9, "those that came UNDER in the HOUR do not wear it", "covers[p] = k; fill(k);", "covers[p] = k; rooms[k]--;");
        breaks(9, "GREY wears", "case GREY: return 0; case KNOB: return 2 * under;", "case GREY: return 1; case KNOB: return 2 * under;");
        breaks(9, "KNOB wears as QUILTED", "case KNOB: return 2 * under;", "case KNOB: return under;");
        breaks(9, "OLD wears as WOOL", "case OLD: return under + 1;", "case OLD: return under;");
        breaks(13, "PLAIN HOLDS less than 0", "int plain = Math.max(0, size - wear / 10);", "int plain = size - wear / 10;");
        breaks(13, "a tenth is not cut", "int plain = Math.max(0, size - wear / 10);", "int plain = Math.max(0, size - (wear + 9) / 10);");
        breaks(13, "half is not cut", "int wool = Math.max(0, size - wear / 2 / 10);", "int wool = Math.max(0, size - (wear + 1) / 2 / 10);");
        breaks(13, "OLD HOLDS less than 0", "case OLD: return Math.max(0, wool - 1);", "case OLD: return wool - 1;");
        breaks(13, "KNOB of any WEAR HOLDS 2 more", "case KNOB: return wear == 0 ?", "case KNOB: return wear >= 0 ?");
        breaks(13, "KNOB of WEAR 1 HOLDS 2 more", "case KNOB: return wear == 0 ?", "case KNOB: return wear <= 1 ?");
    }

    private void darnCarryOf() {
        breaks(10, "n may be 0", "if (!isCosy(k) || !isIn(n, 1, MOST_WEAR)) {", "if (!isCosy(k) || !isIn(n, 0, MOST_WEAR)) {");
        breaks(10, "n may be 41", "if (!isCosy(k) || !isIn(n, 1, MOST_WEAR)) {", "if (!isCosy(k) || !isIn(n, 1, MOST_WEAR + 1)) {");
        breaks(10, "n may not be 40", "if (!isCosy(k) || !isIn(n, 1, MOST_WEAR)) {", "if (!isCosy(k) || !isIn(n, 1, MOST_WEAR - 1)) {");
        breaks(10, "n may not be more than WEAR", "int wear = Math.max(0, now.common.wears[k] - n);",
            "if (n > now.common.wears[k]) { return bad(BAD); } int wear = Math.max(0, now.common.wears[k] - n);");
        breaks(10, "WEAR below 0", "int wear = Math.max(0, now.common.wears[k] - n);", "int wear = now.common.wears[k] - n;");
        breaks(10, "it may not be undone", "now.past.keep(now.common); int wear", "int wear");
        breaks(11, "it may not be undone", "now.past.keep(now.common); int last", "int last");
        breaks(11, "it may not be undone where it stays", "now.past.keep(now.common); int last", "if (cell != now.common.cosyCells[k]) { now.past.keep(now.common); } int last");
        breaks(11, "it answers where it is", "return last; }", "return cell; }");
        breaks(11, "those UNDER it stay", "if (covers[p] == k) { huntedCells[p] = cell; }", "");
        breaks(11, "all UNDER any go with it", "if (covers[p] == k) { huntedCells[p] = cell; }", "if (covers[p] >= 0) { huntedCells[p] = cell; }");
        breaks(13, "a COSY -1", "return isIn(k, 0, now.common.cosies - 1);", "return k < now.common.cosies;");
        breaks(13, "another what answers NONE", "case 5: return now.common.whoIs(k); default: return bad(BAD);", "case 5: return now.common.whoIs(k); default: return bad(NONE);");
        breaks(14, "BAD is told by -2", "return bad(BAD_HERE); } return now.common.tellOf(p, what);", "return bad(BAD); } return now.common.tellOf(p, what);");
        breaks(14, "-10 does not count as BAD", "return bad(BAD_HERE); } return now.common.tellOf(p, what);", "return BAD_HERE; } return now.common.tellOf(p, what);");
        breaks(14, "what may be 3", "if (!isOneHunted(p) || !isIn(what, 0, 2)) {", "if (!isOneHunted(p) || !isIn(what, 0, 3)) {");
        breaks(14, "one TAKEN is UNDER -2", "case 1: return covers[p] >= 0 ? covers[p] : NONE;", "case 1: return covers[p];");
        breaks(15, "there is a SHERIFF beyond the last", "if (!isIn(s, 0, now.common.sheriffs - 1)) {", "if (!isIn(s, 0, Math.min(now.common.sheriffs, 2))) {");
    }

    private void undo() {
        breaks(12, "none to be undone is BAD", "if (now.past.many <= 0) { return no();", "if (now.past.many <= 0) { return bad(NO);");
        breaks(12, "7 at most", "MOST_UNDONE = 8,", "MOST_UNDONE = 7,");
        breaks(12, "9 at most", "MOST_UNDONE = 8,", "MOST_UNDONE = 9,");
        breaks(12, "a 9th is not kept", "if (many >= MOST_UNDONE) { dropFirst(); }", "if (many >= MOST_UNDONE) { return; }");
        breaks(12, "the first is the last one dropped", "Common first = rows[0]; for (int i = 1; i < MOST_UNDONE; i++) { rows[i - 1] = rows[i]; } rows[MOST_UNDONE - 1] = first;", "");
        breaks(12, "it answers the HOUR ahead of it", "now.past.giveBack(now.common); return now.common.hour;",
            "int hour = now.common.hour; now.past.giveBack(now.common); return hour;");
        breaks(12, "it answers how many may be undone", "now.past.giveBack(now.common); return now.common.hour;", "now.past.giveBack(now.common); return now.past.many;");
        breaks(12, "NOTES go", "now.past.giveBack(now.common);", "now.past.giveBack(now.common); now.notes = 0;");
        breaks(12, "WEAR stays", "System.arraycopy(other.wears, 0, wears, 0, MOST_COSIES);", "");
        breaks(12, "CELLS of COSIES stay", "System.arraycopy(other.cosyCells, 0, cosyCells, 0, MOST_COSIES);", "");
        breaks(12, "SHERIFFS stay", "System.arraycopy(other.sheriffCells, 0, sheriffCells, 0, MOST_SHERIFFS);", "");
        breaks(12, "THE HUNTED stay", "System.arraycopy(other.huntedCells, 0, huntedCells, 0, MOST_HUNTED);", "");
        breaks(12, "who is UNDER stays", "System.arraycopy(other.covers, 0, covers, 0, MOST_HUNTED);", "");
        breaks(12, "the HOUR stays", "sheriffs = other.sheriffs; hour = other.hour;", "sheriffs = other.sheriffs;");
    }

    private void thenFateWhen() {
        breaks(16, "m may be 41", "if (!isOneHunted(p) || !isIn(m, 0, MOST_HOURS_LATER) ||", "if (!isOneHunted(p) || !isIn(m, 0, MOST_HOURS_LATER + 1) ||");
        breaks(16, "m may not be 40", "if (!isOneHunted(p) || !isIn(m, 0, MOST_HOURS_LATER) ||", "if (!isOneHunted(p) || !isIn(m, 0, MOST_HOURS_LATER - 1) ||");
        breaks(16, "m may not be 0", "if (!isOneHunted(p) || !isIn(m, 0, MOST_HOURS_LATER) ||", "if (!isOneHunted(p) || !isIn(m, 1, MOST_HOURS_LATER) ||");
        breaks(16, "BAD is told by -2", "return bad(BAD_HERE); } lookAhead(m);", "return bad(BAD); } lookAhead(m);");
        breaks(16, "it is changed by it", "trial.becomes(now.common); trial.passHours(hours);", "now.common.passHours(hours); trial.becomes(now.common);");
        breaks(16, "HOURS end at 999", "trial.becomes(now.common); trial.passHours(hours);", "trial.becomes(now.common); trial.passHours(Math.min(hours, LAST_HOUR - now.common.hour));");
        breaks(17, "HOURS end at 999", "trial.becomes(now.common); trial.passHours(hours);", "trial.becomes(now.common); trial.passHours(Math.min(hours, LAST_HOUR - now.common.hour));");
        breaks(18, "HOURS end at 999", "trial.passHours(1); if (trial.covers[p]", "if (trial.hour < LAST_HOUR) { trial.passHours(1); } if (trial.covers[p]");
        breaks(19, "HOURS end at 999", "trial.passHours(m);", "trial.passHours(Math.min(m, LAST_HOUR - now.common.hour));");
        breaks(20, "HOURS end at 999", "next.passHourWith(p, choice);", "if (here.hour < LAST_HOUR) { next.passHourWith(p, choice); }");
        breaks(29, "HOURS end at 999", "trial.passHours(HOURS_OF_A_YEAR);", "trial.passHours(Math.min(HOURS_OF_A_YEAR, LAST_HOUR - now.common.hour));");
        breaks(17, "m may be 41", "if (!isIn(m, 0, MOST_HOURS_LATER) ||", "if (!isIn(m, 0, MOST_HOURS_LATER + 1) ||");
        breaks(17, "m may be -1", "if (!isIn(m, 0, MOST_HOURS_LATER) ||", "if (!isIn(m, -1, MOST_HOURS_LATER) ||");
        breaks(17, "BAD is told by -10", "return bad(BAD); } lookAhead(m);", "return bad(BAD_HERE); } lookAhead(m);");
        breaks(17, "who: those UNDER, too", "case 1: return trial.whoIs(TAKEN);", "case 1: return ~trial.whoIs(FREE) & 63;");
        breaks(18, "TAKEN now: 0", "if (now.common.covers[p] == TAKEN) { return NONE; }", "if (now.common.covers[p] == TAKEN) { return 0; }");
        breaks(18, "TAKEN now: 1", "if (now.common.covers[p] == TAKEN) { return NONE; }", "");
        breaks(18, "39 HOURS at most", "for (int m = 1; m <= MOST_HOURS_LATER; m++) {", "for (int m = 1; m < MOST_HOURS_LATER; m++) {");
        breaks(18, "41 HOURS at most", "for (int m = 1; m <= MOST_HOURS_LATER; m++) {", "for (int m = 1; m <= MOST_HOURS_LATER + 1; m++) {");
        breaks(18, "BAD is told by -10", "if (!isOneHunted(p)) { return bad(BAD); }", "if (!isOneHunted(p)) { return bad(BAD_HERE); }");
    }

    private void placeRunStitches() {
        breaks(19, "m may be 21", "!isIn(m, 0, MOST_HOURS_PLACED)", "!isIn(m, 0, MOST_HOURS_PLACED + 1)");
        breaks(19, "m may not be 20", "!isIn(m, 0, MOST_HOURS_PLACED)", "!isIn(m, 0, MOST_HOURS_PLACED - 1)");
        breaks(19, "m may not be 0", "!isIn(m, 0, MOST_HOURS_PLACED)", "!isIn(m, 1, MOST_HOURS_PLACED)");
        breaks(19, "of like ones the greatest", "taken == fewestTaken && under > mostUnder", "taken == fewestTaken && under >= mostUnder");
        breaks(19, "how many are UNDER does not count", "|| taken == fewestTaken && under > mostUnder", "");
        breaks(19, "most UNDER goes ahead of fewest TAKEN", "if (taken < fewestTaken || taken == fewestTaken && under > mostUnder) {",
            "if (under > mostUnder || under == mostUnder && taken < fewestTaken) {");
        breaks(19, "those UNDER it are left behind", "trial.moveCosy(k, cell);", "for (int p = 0; p < trial.hunted; p++) { if (trial.covers[p] == k) "
            + "{ trial.setFree(p, trial.huntedCells[p]); } } trial.moveCosy(k, cell);");
        breaks(19, "the last CELL is not looked at", "for (int cell = 0; cell < CELLS; cell++) {", "for (int cell = 0; cell < CELLS - 1; cell++) {");
        breaks(20, "BAD is told by -2", "|| i < NONE) { return bad(BAD_HERE); }", "|| i < NONE) { return bad(BAD); }");
        breaks(20, "i may be -2", "if (!isOneHunted(p) || i < NONE) {", "if (!isOneHunted(p) || i < NONE - 1) {");
        breaks(20, "NO goes ahead of BAD", "if (!isOneHunted(p) || i < NONE) {", "if (isOneHunted(p) && now.common.covers[p] != FREE) { return no(); } if (!isOneHunted(p) || i < NONE) {");
        breaks(20, "one TAKEN has no way, and is not refused", "if (now.common.covers[p] != FREE) { return no(); }", "if (now.common.covers[p] >= 0) { return no(); }");
        breaks(20, "no way: not so many", "if (hours == NONE || i == NONE) {", "if (i == NONE) {");
        breaks(20, "-5 counts as BAD", "escape.choices[i] : NOT_SO_MANY;", "escape.choices[i] : bad(NOT_SO_MANY);");
        breaks(20, "3 HOURS at most", "for (int hours = 1; hours <= MOST_STEPS; hours++) {", "for (int hours = 1; hours < MOST_STEPS; hours++) {");
        breaks(20, "5 HOURS at most", "MOST_STEPS = 4, STAY", "MOST_STEPS = 5, STAY");
        breaks(20, "the most HOURS", "for (int hours = 1; hours <= MOST_STEPS; hours++) {", "for (int hours = MOST_STEPS; hours >= 1; hours--) {");
        breaks(20, "the last such row", "for (int choice = 0; choice < CHOICES; choice++) {", "for (int choice = CHOICES - 1; choice >= 0; choice--) {");
        breaks(20, "off by the next column", "case 0: return column < COLUMNS - 1 ? cell + 1 : NONE;", "case 0: return column < COLUMNS - 1 ? cell + 1 : cell;");
        breaks(20, "off by the next row", "case 1: return row < ROWS - 1 ? cell + COLUMNS : NONE;", "case 1: return row < ROWS - 1 ? cell + COLUMNS : cell;");
        breaks(20, "off by the column ahead", "case 2: return column > 0 ? cell - 1 : NONE;", "case 2: return column > 0 ? cell - 1 : cell;");
        breaks(20, "off by the row ahead", "case 3: return row > 0 ? cell - COLUMNS : NONE;", "case 3: return row > 0 ? cell - COLUMNS : cell;");
        breaks(20, "around by the columns", "case 0: return column < COLUMNS - 1 ? cell + 1 : NONE;", "case 0: return column < COLUMNS - 1 ? cell + 1 : cell - 5;");
        breaks(20, "4 steps as told", "} else if (choice != STAY) {", "} else {");
        breaks(21, "n may be 10", "if (!isCosy(k) || !isIn(n, 0, MOST_HELD)) {", "if (!isCosy(k) || !isIn(n, 0, MOST_HELD + 1)) {");
        breaks(21, "n may not be 9", "if (!isCosy(k) || !isIn(n, 0, MOST_HELD)) {", "if (!isCosy(k) || !isIn(n, 0, MOST_HELD - 1)) {");
        breaks(21, "more than n", "wear - less) >= n) {", "wear - less) > n) {");
        breaks(21, "just n", "wear - less) >= n) {", "wear - less) == n) {");
        breaks(21, "never to WEAR 0", "for (int less = 0; less <= wear; less++) {", "for (int less = 0; less < wear; less++) {");
    }

    private void notes() {
        breaks(22, "WEAR may be 41", "!isIn(w, 0, MOST_WEAR)", "!isIn(w, 0, MOST_WEAR + 1)");
        breaks(22, "WEAR may not be 0", "!isIn(w, 0, MOST_WEAR)", "!isIn(w, 1, MOST_WEAR)");
        breaks(22, "n may be 10", "|| !isIn(w, 0, MOST_WEAR) || !isIn(n, 0, MOST_HELD)", "|| !isIn(w, 0, MOST_WEAR) || !isIn(n, 0, MOST_HELD + 1)");
        breaks(22, "n may not be 9", "|| !isIn(w, 0, MOST_WEAR) || !isIn(n, 0, MOST_HELD)", "|| !isIn(w, 0, MOST_WEAR) || !isIn(n, 0, MOST_HELD - 1)");
        breaks(22, "a 6th is FULL", "if (now.notes >= MOST_NOTES) { return full();", "if (now.notes >= MOST_NOTES - 1) { return full();");
        breaks(22, "FULL goes ahead of BAD", "public int note(int k, int w, int n) {", "public int note(int k, int w, int n) { if (now.notes >= MOST_NOTES) { return full(); }");
        breaks(22, "it answers the number", "notes++; return notes;", "notes++; return notes - 1;");
        breaks(22, "none may be undone behind it", "return now.addNote(k, w, n);", "now.past.many = 0; return now.addNote(k, w, n);");
        breaks(23, "it answers how many there are", "now.notes = 0; return notes;", "now.notes = 0; return now.notes;");
        breaks(23, "they stay", "now.notes = 0; return notes;", "return notes;");
        breaks(23, "none may be undone behind it", "now.notes = 0; return notes;", "now.notes = 0; now.past.many = 0; return notes;");
        breaks(24, "by all NOTES, of other COSIES, too", "if (now.noteCosies[i] == k && holdsAs", "if (holdsAs");
        breaks(24, "by the first NOTE", "for (int i = 0; i < now.notes; i++) {", "for (int i = 0; i < Math.min(1, now.notes); i++) {");
        breaks(24, "the last NOTE does not count", "for (int i = 0; i < now.notes; i++) {", "for (int i = 0; i < now.notes - 1; i++) {");
        breaks(24, "OLD is no KIND", "int fitting = 0; for (int kind = 0; kind < KINDS; kind++) {", "int fitting = 0; for (int kind = 0; kind < KINDS - 1; kind++) {");
        breaks(24, "there is no COSY: no KIND", "return isCosy(k) ? fittingKinds(k) : bad(BAD);", "return isCosy(k) ? fittingKinds(k) : 0;");
        breaks(25, "of like ones the greatest", "if (alike < fewest) {", "if (alike <= fewest) {");
        breaks(25, "no KIND: 0", "wear <= MOST_WEAR && fitting != 0; wear++)", "wear <= MOST_WEAR; wear++)");
        breaks(25, "the WEAR by which most HOLD alike", "if (alike < fewest) {", "if (best == NONE || alike > fewest) {");
        breaks(25, "all KINDS count", "if ((kinds >> other & 1) == 1 && held[other] == held[kind]) {", "if (held[other] == held[kind]) {");
        breaks(25, "none counts as refused", "int fitting = fittingKinds(k); int best", "int fitting = fittingKinds(k); if (fitting == 0) { return no(); } int best");
    }

    private void insideAndTwo() {
        breaks(26, "x may be 9", "!isIn(x, 0, MOST_FAR)", "!isIn(x, 0, MOST_FAR + 1)");
        breaks(26, "x may not be 8", "!isIn(x, 0, MOST_FAR)", "!isIn(x, 0, MOST_FAR - 1)");
        breaks(26, "what may be 2", "|| !isIn(what, 0, 1)) {", "|| !isIn(what, 0, 2)) {");
        breaks(26, "less than x FAR", "Cells.far(huntedCells[p], cell) <= far) {", "Cells.far(huntedCells[p], cell) < far) {");
        breaks(26, "those TAKEN, too", "if (covers[p] != TAKEN && Cells.far", "if (Cells.far");
        breaks(26, "just those that are free", "if (covers[p] != TAKEN && Cells.far", "if (covers[p] == FREE && Cells.far");
        breaks(26, "not the empty set", "int sets = 0, inSome = 0; for (int set = 0;", "int sets = 0, inSome = 0; for (int set = 1;");
        breaks(26, "fewer than it HOLDS", "Integer.bitCount(set) <= most) {", "Integer.bitCount(set) < most) {");
        breaks(26, "one more than it HOLDS", "Integer.bitCount(set) <= most) {", "Integer.bitCount(set) <= most + 1) {");
        breaks(26, "those UNDER it take their places", "int most = now.common.holds(k);", "int most = now.common.holds(k) - now.common.manyUnder(k);");
        breaks(27, "alike may be", "|| a == b || k < NONE) {", "|| k < NONE) {");
        breaks(27, "k may be -2", "|| a == b || k < NONE) {", "|| a == b || k < NONE - 1) {");
        breaks(27, "BAD is told by -2", "|| a == b || k < NONE) { return bad(BAD_HERE); }", "|| a == b || k < NONE) { return bad(BAD); }");
        breaks(27, "just a must be free", "if (now.common.covers[a] != FREE || now.common.covers[b] != FREE) {", "if (now.common.covers[a] != FREE) {");
        breaks(27, "just b must be free", "if (now.common.covers[a] != FREE || now.common.covers[b] != FREE) {", "if (now.common.covers[b] != FREE) {");
        breaks(27, "one of them must be free", "if (now.common.covers[a] != FREE || now.common.covers[b] != FREE) {",
            "if (now.common.covers[a] != FREE && now.common.covers[b] != FREE) {");
        breaks(27, "-5 counts as BAD", "return k == NONE ? many : NOT_SO_MANY;", "return k == NONE ? many : bad(NOT_SO_MANY);");
        breaks(27, "not so many is NONE", "return k == NONE ? many : NOT_SO_MANY;", "return k == NONE ? many : NONE;");
        breaks(27, "k is from 1 on", "if (many == k) {", "if (many + 1 == k) {");
        breaks(27, "pairs are 5 j and i", "return MOST_COSIES * i + j;", "return MOST_COSIES * j + i;");
        breaks(27, "as much by another is more", "if (getsBy(p, k, other, theirs) > gets) {", "if (k != mine && getsBy(p, k, other, theirs) >= gets) {");
        breaks(27, "the one of lesser number gives way", "mine == theirs && p > other;", "mine == theirs && p < other;");
        breaks(27, "both give way", "mine == theirs && p > other;", "mine == theirs;");
        breaks(27, "where it HOLDS two more, too", "boolean isOutdone = room == 1 &&", "boolean isOutdone = room <= 2 &&");
        breaks(27, "those UNDER it do not count", "int room = now.common.holds(mine) - now.common.manyUnder(mine);", "int room = now.common.holds(mine);");
        breaks(27, "8 less how FAR it is", "int gets = 9 - Cells.far", "int gets = 8 - Cells.far");
        breaks(27, "0, where there is no room", "isOutdone ? -gets : gets;", "isOutdone ? 0 : gets;");
    }

    private void rainAndYears() {
        breaks(28, "c may be 11", "if (!isIn(c, 0, 10)) {", "if (!isIn(c, 0, 11)) {");
        breaks(28, "c may be -1", "if (!isIn(c, 0, 10)) {", "if (!isIn(c, -1, 10)) {");
        breaks(28, "c may not be 0", "if (!isIn(c, 0, 10)) {", "if (!isIn(c, 1, 10)) {");
        breaks(28, "c may not be 10", "if (!isIn(c, 0, 10)) {", "if (!isIn(c, 0, 9)) {");
        breaks(28, "not the lowest terms by 2", "tenths % 2 == 0 ? 2 : 1;", "1;");
        breaks(28, "not the lowest terms by 5", "tenths % 5 == 0 ? 5 : ", "");
        breaks(28, "not the lowest terms by 10", "tenths % 10 == 0 ? 10 : ", "");
        breaks(28, "0 by 10", "above = tenths / divisor;", "divisor = tenths == 0 ? 1 : divisor; above = tenths / divisor;");
        breaks(28, "it answers how many are UNDER", "below = 10 / divisor; return 1;", "below = 10 / divisor; return now.common.manyUnder();");
        breaks(28, "those let go count", "now.common.manyUnder() * (10 - c);", "now.common.manyUnder() * c;");
        breaks(29, "the SEED may be 1000000", "!isIn(seed, 0, MOST_SEED)", "!isIn(seed, 0, MOST_SEED + 1)");
        breaks(29, "the SEED may not be 999999", "!isIn(seed, 0, MOST_SEED)", "!isIn(seed, 0, MOST_SEED - 1)");
        breaks(29, "the SEED may not be 0", "!isIn(seed, 0, MOST_SEED)", "!isIn(seed, 1, MOST_SEED)");
        breaks(29, "n may be 31", "!isIn(n, 0, MOST_YEARS)", "!isIn(n, 0, MOST_YEARS + 1)");
        breaks(29, "n may not be 0", "!isIn(n, 0, MOST_YEARS)", "!isIn(n, 1, MOST_YEARS)");
        breaks(29, "n may not be 30", "!isIn(n, 0, MOST_YEARS)", "!isIn(n, 0, MOST_YEARS - 1)");
        breaks(29, "X is the SEED in each year", "trial.becomes(now.common); for (int p", "x = seed; trial.becomes(now.common); for (int p");
        breaks(29, "the second year goes on from the first", "for (int year = 0; year < n; year++) { trial.becomes(now.common);",
            "for (int year = 0; year < n; year++) { if (year == 0) { trial.becomes(now.common); }");
        breaks(29, "those UNDER or TAKEN now stay so", "trial.setFree(p, (int) (x / DRAW_CUT % CELLS));", "trial.huntedCells[p] = (int) (x / DRAW_CUT % CELLS);");
        breaks(29, "8 HOURS", "HOURS_OF_A_YEAR = 9;", "HOURS_OF_A_YEAR = 8;");
        breaks(29, "10 HOURS", "HOURS_OF_A_YEAR = 9;", "HOURS_OF_A_YEAR = 10;");
        breaks(29, "the last year alone counts", "taken += trial.manyTaken();", "taken = trial.manyTaken();");
        breaks(29, "a SHERIFF goes on from where he was", "trial.becomes(now.common); for (int p",
            "int last = trial.sheriffCells[0]; trial.becomes(now.common); if (year > 0) { trial.sheriffCells[0] = last; } for (int p");
        breaks(29, "just a part of the SEED counts", "long x = seed;", "long x = seed & 65535;");
    }

    private void images() {
        breaks(31, "there is no IMAGE 1", "case 1: return secondImage;", "case 1: return null;");
        breaks(31, "IMAGES 0 and 1 are one", "case 1: return secondImage;", "case 1: return firstImage;");
        breaks(31, "there is an IMAGE 2", "case 1: return secondImage;", "case 1: case 2: return secondImage;");
        breaks(31, "none is kept anew", "image.becomes(now);", "if (!image.isKept) { image.becomes(now); }");
        breaks(31, "all is gone behind it", "image.isKept = true;", "image.isKept = true; now.empty();");
        breaks(31, "none may be undone behind it", "image.isKept = true;", "image.isKept = true; now.past.many = 0;");
        breaks(32, "none was kept: BAD", "if (!image.isKept) { return no();", "if (!image.isKept) { return bad(BAD);");
        breaks(32, "none was kept: an empty common", "if (!image.isKept) { return no(); }", "");
        breaks(32, "it goes on from one once", "now.becomes(image); return 1;", "now.becomes(image); image.isKept = false; return 1;");
        breaks(32, "IMAGES keep nothing to be undone", "common.becomes(other.common); past.becomes(other.past);", "common.becomes(other.common);");
        breaks(32, "what may be undone is lost by it", "now.becomes(image); return 1;", "now.becomes(image); now.past.many = 0; return 1;");
        breaks(32, "what may be undone is but how many", "if (row != null && others != null) { row.becomes(others); }", "");
        breaks(32, "the eighth that may be undone is lost", "for (int i = 0; i < other.many; i++) {", "for (int i = 0; i < Math.min(7, other.many); i++) {");
        breaks(32, "it may be undone itself", "now.becomes(image); return 1;", "now.past.keep(now.common); now.becomes(image); now.past.keep(now.common); return 1;");
        breaks(32, "IMAGES keep no NOTES", "notes = other.notes; }", "}");
        breaks(32, "NOTES of which COSIES are lost", "System.arraycopy(other.noteCosies, 0, noteCosies, 0, MOST_NOTES);", "");
        breaks(32, "NOTES of what WEAR are lost", "System.arraycopy(other.noteWears, 0, noteWears, 0, MOST_NOTES);", "");
        breaks(32, "NOTES of how many are lost", "System.arraycopy(other.noteHeld, 0, noteHeld, 0, MOST_NOTES);", "");
        breaks(32, "THE TEXT goes", "now.becomes(image); return 1;", "now.becomes(image); text.length = 0; return 1;");
        breaks(32, "THE FRACTION goes", "now.becomes(image); return 1;", "now.becomes(image); above = 0; below = 1; return 1;");
        breaks(32, "STATUS goes", "now.becomes(image); return 1;", "now.becomes(image); bads = 0; return 1;");
        breaks(32, "the other IMAGE goes", "now.becomes(image); return 1;", "now.becomes(image); (i == 0 ? secondImage : firstImage).isKept = false; return 1;");
    }

    private void statusCountDigest() {
        breaks(30, "another what answers -1", "case 1: return below; default: return bad(BAD);", "case 1: return below; default: return bad(NONE);");
        breaks(30, "another what is not refused", "case 1: return below; default: return bad(BAD);", "case 1: return below; default: return BAD;");
        breaks(33, "another what answers -2", "default: return bad(NONE);", "default: return bad(BAD);");
        breaks(33, "another what does not count", "default: return bad(NONE);", "default: return NONE;");
        breaks(33, "NO and FULL are another", "case 1: return noes; case 2: return fulls;", "case 1: return fulls; case 2: return noes;");
        breaks(33, "-10 does not count as BAD", "bads++; return answer;", "bads += answer == BAD_HERE ? 0 : 1; return answer;");
        breaks(33, "to look at it sets it to 0", "case 0: return bads;", "case 0: int many = bads; bads = 0; return many;");
        breaks(33, "NO counts as BAD, too", "noes++; return NO;", "noes++; bads++; return NO;");
        breaks(33, "FULL counts as NO", "fulls++; return FULL;", "noes++; return FULL;");
        breaks(34, "what may be 9", "return isIn(what, 0, 8) ? countOf(what)", "return isIn(what, 0, 9) ? countOf(what)");
        breaks(34, "what may not be 8", "return isIn(what, 0, 8) ? countOf(what)", "return isIn(what, 0, 7) ? countOf(what)");
        breaks(34, "those TAKEN are UNDER, too", "return hunted - manyTaken() - Integer", "return hunted - Integer");
        breaks(34, "just those UNDER the first count", "case 5: return now.common.manyUnder();", "case 5: return now.common.manyUnder(0);");
        breaks(35, "another beginning", "long h = 1409;", "long h = 1408;");
        breaks(35, "bytes of THE TEXT are not of it", "for (int what = 0; what <= 8; what++) {", "for (int what = 0; what < 8; what++) {");
        breaks(35, "NOTES ahead of the common", "h = now.common.digestOn(h); h = now.digestNotesOn(h);", "h = now.digestNotesOn(h); h = now.common.digestOn(h);");
        breaks(35, "below ahead of above", "h = 31 * h + above; return 31 * h + below;", "h = 31 * h + below; return 31 * h + above;");
        breaks(35, "TAKEN is not of it", "for (int what = 0; what <= 2; what++) {", "for (int what = 0; what < 2; what++) {");
        breaks(35, "WEAR is not of it", "h = 31 * h + sizes[k]; h = 31 * h + wears[k];", "h = 31 * h + sizes[k];");
        breaks(35, "STATUS is of it", "long h = 1409;", "long h = 1409 + bads;");
    }
}

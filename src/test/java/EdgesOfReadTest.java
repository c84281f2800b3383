/** Promise 8 at its edges: read, and the words of the document on THE TEXT. */
public final class EdgesOfReadTest extends Edge {
    private static final String FIVE_COSIES = "common;cosy0 0 1;cosy1 1 2;cosy2 2 3;cosy3 3 4;cosy4 4 1;";
    private static final String SIX_HUNTED = "common;hunted0;hunted1;hunted2;hunted3;hunted4;hunted5;";
    private static final String THREE_SHERIFFS = "common;sheriff6;sheriff7;sheriff8;";

    public static void main(String[] args) {
        new EdgesOfReadTest().finish();
    }

    @Override
    void look() {
        promise(8);
        items();
        takesThePlaceOfAll();
        staysBehindIt();
        endsTooEarly();
        commonOnceAndFirst();
        words();
        numbersOfCosies();
        numbersOfTheOthers();
        figures();
        blanks();
        otherBytes();
        fullCommons();
    }

    /** THE TEXT can be read, and has so many ITEMS. */
    private void reads(String sentence, String text, int items) {
        answers(sentence, typed(text), CosyAsylum::read, items);
    }

    /** The place of the FAULT, from 0 on; all stays, STATUS too. */
    private void fault(String sentence, String text, int place) {
        looks(sentence, typed(text), CosyAsylum::read, -10 - place);
    }

    /** What one look tells behind THE TEXT is read. */
    private void told(String sentence, String text, Call look, long due) {
        answers(sentence, typed(text).then(CosyAsylum::read), look, due);
    }

    private void items() {
        reads("common alone is one ITEM", "common;", 1);
        reads("each ITEM counts, wear too", "common;cosy 0 0 1;hunted 0;sheriff 0;wear 0 0;", 5);
        reads("a full TEXT of a full common has 17", LONG_TEXT, 17);
        answersAll("read again it is as many", typed("common;hunted 3;"), x -> row(x.read(), x.read(), x.count(1)), 2, 2, 1);
    }

    private void takesThePlaceOfAll() {
        String[] counts = {"COSIES", "THE HUNTED", "SHERIFFS", "the HOUR", "TAKEN", "UNDER", "NOTES", "that may be undone"};
        for (int i = 0; i < counts.length; i++) {
            int what = i;
            told("a common of nothing has 0: " + counts[i], "common;", x -> x.count(what), 0);
        }
        answers("nothing may be undone, reading neither", typed("common;").then(CosyAsylum::read), CosyAsylum::undo, NO);
        told("a new COSY has WEAR 0, where one of WEAR was", "common;cosy 0 7 1;", x -> x.of(0, 3), 0);
        told("one is free in a COSY's CELL", "common;cosy 0 7 1;hunted 7;", x -> x.about(0, 1), NONE);
        told("one is free in a SHERIFF's CELL", "common;sheriff 7;hunted 7;hunted 7;", x -> x.about(1, 2), 0);
        answersAll("the HOUR begins anew", typed("common;").then(CosyAsylum::read), x -> row(x.hour(1), x.count(3)), 0, 1);
        answersAll("numbers go on behind those read", typed("common;cosy 0 0 1;hunted 1;").then(CosyAsylum::read),
            x -> row(x.cosy(0, 0, 1), x.hunted(0), x.sheriff(0)), 1, 1, 0);
    }

    private void staysBehindIt() {
        Ahead read = typed("common;hunted 3;").then(CosyAsylum::read);
        answersAll("IMAGE 0 stays", read, x -> row(x.from(0), x.count(0), x.count(6), x.count(7)), 1, 2, 2, 2);
        answersAll("IMAGE 1 stays", read, x -> row(x.from(1), x.count(0), x.count(6), x.count(7)), 1, 1, 1, 2);
        answers("THE TEXT stays as long as it was", read, x -> x.count(8), 16);
        answersAll("THE FRACTION stays", read, x -> row(x.part(0), x.part(1)), 7, 10);
        answersAll("STATUS stays", read, x -> row(x.status(0), x.status(1), x.status(2)), 3, 2, 1);
        answersAll("STATUS stays behind a FAULT", typed("commo").then(CosyAsylum::read), x -> row(x.status(0), x.status(1), x.status(2)), 3, 2, 1);
        answersAll("behind a FAULT at the last byte all stays", typed("common;hunted 3;x").then(CosyAsylum::read), x -> row(x.count(0), x.count(1),
            x.count(2), x.count(3), x.count(4), x.count(5), x.count(6), x.count(7)), 2, 3, 1, 1, 1, 1, 2, 3);
    }

    private void endsTooEarly() {
        fault("an empty TEXT", "", 0);
        fault("one blank: its length", " ", 1);
        looks("150 blanks: its length", x -> type(x, " ".repeat(150)), CosyAsylum::read, -160);
        fault("behind common", "common", 6);
        fault("behind common and blanks", "common   ", 9);
        fault("behind cosy", "common;cosy", 11);
        fault("behind KIND", "common;cosy 0", 13);
        fault("behind CELL", "common;cosy 0 0", 15);
        fault("behind SIZE", "common;cosy 0 0 1", 17);
        fault("behind hunted", "common;hunted", 13);
        fault("behind the hunted's CELL", "common;hunted 0", 15);
        fault("behind sheriff", "common;sheriff", 14);
        fault("behind the SHERIFF's CELL", "common;sheriff 0 ", 17);
        fault("behind wear", "common;cosy 0 0 1;wear", 22);
        fault("behind a COSY's number", "common;cosy 0 0 1;wear 0", 24);
        fault("behind WEAR", "common;cosy 0 0 1;wear 0 0", 26);
    }

    private void commonOnceAndFirst() {
        fault("common again", "common;common;", 7);
        fault("common again as the last", "common;hunted 0; common", 17);
        fault("common twice in one ITEM", "common common;", 7);
        fault("cosy ahead of common", "cosy 0 0 1;common;", 0);
        fault("hunted ahead of common", " hunted 0;common;", 1);
        fault("sheriff ahead of common", "sheriff 0;common;", 0);
        fault("wear ahead of common", "wear 0 0;common;", 0);
        fault("; ahead of common", ";common;", 0);
        fault("a number ahead of common", "7common;", 0);
        fault("a byte ahead of common", "-common;", 0);
        fault("a number in common's ITEM", "common 1;", 7);
        fault("an ITEM of no word", "common;;", 7);
        fault("an ITEM of a number", "common;5;", 7);
    }

    private void words() {
        fault("a word that is none as the first", "commo;", 0);
        fault("a word too long as the first", "commons;", 0);
        fault("a word cut in two by a blank", "com mon;", 0);
        String[] likeWords = {"bommon;", "dommon;", "commom;", "commoo;", "commonz;", "commona;", "zcommon;", "acommon;"};
        for (String word : likeWords) {
            fault("a word that is none: " + word, word, 0);
        }
        String[] likeOthers = {"bosy 0 0 1;", "dosy 0 0 1;", "cosx 0 0 1;", "cosz 0 0 1;", "gunted 0;", "iunted 0;", "huntec 0;", "huntee 0;", "rheriff 0;",
            "theriff 0;", "sherife 0;", "sherifg 0;", "vear 0 0;", "xear 0 0;", "weaq 0 0;", "weas 0 0;", "x;", "a 0;", "z 0;"};
        for (String word : likeOthers) {
            fault("a word that is none: " + word, "common;cosy 0 0 1;" + word, 18);
        }
        fault("a word that is none behind common", "common; cos 0 0 1;", 8);
        fault("a word too long behind common", "common;huntedd 0;", 7);
        fault("a word that is none: sheriffs", "common;sheriffs 0;", 7);
        fault("a word that is none: worn", "common;cosy 0 0 1;worn 0 0;", 18);
        fault("a word that is none where a number should stand", "common;hunted x;", 14);
        fault("a word where a number should stand", "common;hunted hunted;", 14);
        fault("a word where ; should stand", "common;hunted 0hunted 0;", 15);
        fault("a capital is no letter", "Common;", 0);
        fault("a capital ends a word", "common;hunteD 0;", 7);
        fault("; where a number should stand", "common;cosy 0 0;", 15);
        fault("one number too many", "common;hunted 0 0;", 16);
        fault("a number too many of a COSY", "common;cosy 0 0 1 1;", 18);
        fault("a number too many of wear", "common;cosy 0 0 1;wear 0 0 0;", 27);
    }

    private void numbersOfCosies() {
        told("KIND is 0 at least", "common;cosy 0 9 2;", x -> x.of(0, 0), 0);
        told("KIND is 5 at most", "common;cosy 5 9 2;", x -> x.of(0, 0), 5);
        fault("KIND 6", "common;cosy 6 9 2;", 12);
        fault("KIND 99", "common;cosy 99 9 2;", 12);
        told("CELL is 0 at least", "common;cosy 1 0 2;", x -> x.of(0, 1), 0);
        told("CELL is 23 at most", "common;cosy 1 23 2;", x -> x.of(0, 1), 23);
        fault("CELL 24", "common;cosy 1 24 2;", 14);
        told("SIZE is 1 at least", "common;cosy 1 9 1;", x -> x.of(0, 2), 1);
        told("SIZE is 4 at most", "common;cosy 1 9 4;", x -> x.of(0, 2), 4);
        fault("SIZE 0", "common;cosy 1 9 0;", 16);
        fault("SIZE 5", "common;cosy 1 9 5;", 16);
        told("WEAR is 0 at least", "common;cosy 1 9 4;wear 0 0;", x -> x.of(0, 3), 0);
        told("WEAR is 40 at most", "common;cosy 1 9 4;wear 0 40;", x -> x.of(0, 3), 40);
        fault("WEAR 41", "common;cosy 1 9 4;wear 0 41;", 25);
        told("the last told WEAR is it", "common;cosy 1 9 4;wear 0 40;wear 0 39;", x -> x.of(0, 3), 39);
        told("WEAR of the one told alone", "common;cosy 1 9 4;cosy 1 9 4;wear 1 7;", x -> x.of(0, 3), 0);
        told("WEAR of the last COSY that is there", "common;cosy 1 9 4;cosy 1 9 4;wear 1 7;", x -> x.of(1, 3), 7);
        fault("WEAR of a COSY that is not there yet", "common;cosy 1 9 4;wear 1 0;cosy 1 9 4;", 23);
        fault("WEAR where there is no COSY, though two were there", "common;wear 0 0;", 12);
        told("WEAR of the 5th COSY", FIVE_COSIES + "wear 4 3;", x -> x.of(4, 3), 3);
        fault("WEAR of a 6th COSY", FIVE_COSIES + "wear 5 3;", 62);
    }

    private void numbersOfTheOthers() {
        told("the hunted's CELL is 0 at least", "common;hunted 0;", x -> x.about(0, 0), 0);
        told("the hunted's CELL is 23 at most", "common;hunted 23;", x -> x.about(0, 0), 23);
        fault("the hunted's CELL 24", "common;hunted 24;", 14);
        told("the SHERIFF's CELL is 0 at least", "common;sheriff 0;", x -> x.where(0), 0);
        told("the SHERIFF's CELL is 23 at most", "common;sheriff 23;", x -> x.where(0), 23);
        fault("the SHERIFF's CELL 24", "common;sheriff 24;", 15);
        fault("a number below 0", "common;hunted -1;", 14);
        fault("a number with a point", "common;hunted 1.5;", 15);
    }

    private void figures() {
        told("two figures are one number", "common;hunted 12;", x -> x.about(0, 0), 12);
        told("a 0 ahead of one figure", "common;hunted 05;", x -> x.about(0, 0), 5);
        told("00 is 0", "common;hunted 00;", x -> x.about(0, 0), 0);
        told("the figure 9", "common;hunted 9;", x -> x.about(0, 0), 9);
        told("a number of two in each place", "common;cosy 05 09 04;wear 00 08;", x -> x.of(0, 3), 8);
        fault("three figures, at the first one, though the number is as told", "common;hunted 005;", 14);
        fault("three figures, though the first two are as told", "common;hunted  123;", 15);
        fault("four figures", "common;hunted 0005;", 14);
        fault("a hundred figures", "common;hunted " + "1".repeat(100) + ";", 14);
        fault("three figures that stand for three numbers", "common;cosy 001;", 12);
        fault("two numbers without a blank are one", "common;cosy 0 01;", 16);
        fault("three figures up to the end", "common;hunted 005", 14);
    }

    private void blanks() {
        reads("none is needed between word and number, number and ;, ; and word", "common;cosy0 0 1;hunted0;sheriff0;wear0 0;", 5);
        reads("one ahead of common", " common;", 1);
        reads("many ahead of common", "        common;", 1);
        reads("ahead of ;", "common  ;", 1);
        reads("behind the last ;", "common;  ", 1);
        reads("any number between all", "  common  ;  cosy   0   0   1  ;  wear   0   0  ;  ", 3);
        reads("a blank only where one is needed, up to the 150th byte", "common;" + " ".repeat(143), 1);
        fault("needed between two words", "common;cosyhunted 0;", 7);
        fault("blanks are passed over to the FAULT's first byte", "common;    x", 11);
        fault("a blank within a number makes two", "common;hunted 1 2;", 16);
    }

    private void otherBytes() {
        int[] bytes = {0, 1, 9, 10, 13, 31, '!', '/', ':', '<', '@', 'A', 'Z', '[', '`', '{', 127};
        for (int b : bytes) {
            char c = (char) b;
            fault("byte " + b + " begins no TOKEN: ahead of all", c + "common;", 0);
            fault("byte " + b + " begins no TOKEN: between ITEMS", "common;hunted 3;" + c, 16);
            fault("byte " + b + " begins no TOKEN: behind a word", "common;hunted" + c + "3;", 13);
            fault("byte " + b + " begins no TOKEN: behind a number", "common;hunted 3" + c, 15);
        }
    }

    private void fullCommons() {
        reads("a 5th cosy may be", FIVE_COSIES, 6);
        fault("a 6th cosy, at its word", FIVE_COSIES + "cosy 0 0 1;", 57);
        fault("a 6th cosy, though it is not ended", FIVE_COSIES + " cosy", 58);
        reads("a 6th hunted may be", SIX_HUNTED, 7);
        fault("a 7th hunted, at its word", SIX_HUNTED + "hunted 0;", 55);
        fault("a 7th hunted, though it is not ended", SIX_HUNTED + "hunted", 55);
        reads("a 3rd sheriff may be", THREE_SHERIFFS, 4);
        fault("a 4th sheriff, at its word", THREE_SHERIFFS + "sheriff 0;", 34);
        fault("a 4th sheriff, though it is not ended", THREE_SHERIFFS + "sheriff", 34);
        answers("those there ahead do not count: COSIES", ALL_FULL, CosyAsylum::read, 17);
        answersAll("a full one is read over a full one", ALL_FULL.then(CosyAsylum::read), x -> row(x.count(0), x.count(1), x.count(2), x.count(3),
            x.count(4), x.count(5), x.count(6), x.count(7), x.count(8), x.of(4, 3), x.of(0, 3)), 5, 6, 3, 0, 0, 0, 0, 0, 150, 40, 3);
        looks("a FAULT at the 150th byte", x -> type(x, LONG_TEXT.substring(0, 149) + ":"), CosyAsylum::read, -159);
        looks("a TEXT that ends too early at the 150th byte", x -> type(x, LONG_TEXT.substring(0, 149) + " "), CosyAsylum::read, -160);
    }
}

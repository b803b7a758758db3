/** Promises 1 to 6 and 37: a new object, the TAPE, the three texts and their FAULTS. */
final class ReadingTests {
    private ReadingTests() {
    }

    static void run() {
        newObject();
        feed();
        takenFromTheTape();
        kaseFaults();
        kaseTells();
        kaseLimits();
        tongueFaults();
        tongueLimits();
        tongueTakesAway();
        textFaults();
        textLimits();
        aFaultChangesNothing();
    }

    private static void newObject() {
        WornType x = new WornType();
        for (int what = 0; what <= 7; what++) {
            Checks.is("told " + what + " of a new object", x.told(what), 0);
        }
        Checks.is("fault of a new object", x.fault(), -1);
        Checks.is("NONE", WornType.NONE, -1);
        Checks.is("no images", x.count(0), 0);
        Checks.is("an empty tape", x.count(1), 0);
        Checks.is("lost of a new object", x.lost(0), 0);
    }

    private static void feed() {
        WornType x = new WornType();
        Checks.is("feed", x.feed(0x61620000, 0, 0, 0, 0), 20);
        for (int i = 2; i <= 25; i++) {
            Checks.is("feed " + i, x.feed(-1, 0, 0, 0, Integer.MIN_VALUE), 20 * i);
        }
        Checks.is("feed too many", x.feed(0, 0, 0, 0, 0), -1);
        Checks.is("the bytes stay", x.count(1), 500);
        Checks.is("the highest byte is the first", x.tongue(3), -9);
        Checks.is("its place", x.fault(), 2);
        Checks.is("the tape is empty", x.count(1), 0);
        Checks.is("count of others", x.count(2), -1);
        Checks.is("count of others", x.count(-1), -1);
        Checks.is("feed from new", x.feed(0x20202020, 0x20616263, 0x3b000000, 0, 0), 20);
        Checks.is("in the order of the numbers", x.tongue(9), 1);
        Checks.is("its letters", x.word(0, 0), 3);
    }

    private static void takenFromTheTape() {
        WornType x = new WornType();
        Checks.tape(x, "faint 7;            and more");
        Checks.wrong("kase(-1)", () -> x.kase(-1));
        Checks.wrong("kase(41)", () -> x.kase(41));
        Checks.wrong("tongue(-1)", () -> x.tongue(-1));
        Checks.wrong("tongue(41)", () -> x.tongue(41));
        Checks.wrong("text(-1)", () -> x.text(-1));
        Checks.wrong("text(41)", () -> x.text(41));
        Checks.is("the tape stays", x.count(1), 40);
        Checks.is("only the first bytes are the case", x.kase(8), 0);
        Checks.is("F", x.told(5), 7);
        Checks.is("the rest is gone", x.count(1), 0);
        Checks.is("an empty case", x.kase(0), 0);
        Checks.is("F without", x.told(5), 0);
        Checks.is("an empty tongue", x.tongue(0), 0);
        Checks.is("an empty text", x.text(0), -9);
        Checks.is("its place", x.fault(), 0);
        Checks.wrong("text(1) of an empty tape", () -> x.text(1));
        Checks.is("the fault stays", x.fault(), 0);
    }

    private static void kaseFault(String text, int answer, int place) {
        WornType x = new WornType();
        Checks.is("kase of " + text, Checks.kase(x, text), answer);
        Checks.is("fault of " + text, x.fault(), place);
        Checks.is("told 0 of " + text, x.told(0), 0);
    }

    private static void kaseFaults() {
        kaseFault("letter a 0 1;", -8, 9);
        kaseFault("letter a 13 1;", -8, 9);
        kaseFault("letter a 99999999999999999999 1;", -8, 9);
        kaseFault("letter a 1 0;", -8, 11);
        kaseFault("letter a 1 401;", -8, 11);
        kaseFault("letter a 12 1; letter a 1 1;", -8, 24);
        kaseFault("there a 6 1;there a 7 1;", -8, 20);
        kaseFault("there ab 6 1;", -8, 6);
        kaseFault("price a 100;", -8, 8);
        kaseFault("price aa 1;", -8, 6);
        kaseFault("faint 100;", -8, 6);
        kaseFault("like ab c;", -8, 5);
        kaseFault("like a bc;", -8, 7);
        kaseFault("follow 4 0;", -8, 7);
        kaseFault("follow 12;", -8, 7);
        kaseFault("follow 0 4;", -8, 9);
        kaseFault("letter a 13 x", -8, 9);
        kaseFault("lettera 1 1;", -9, 0);
        kaseFault("Letter a 1 1;", -9, 0);
        kaseFault(";", -9, 0);
        kaseFault("  7;", -9, 2);
        kaseFault("letter a 1 1", -9, 12);
        kaseFault("letter a 1 1   ", -9, 15);
        kaseFault("letter a 1 1,", -9, 12);
        kaseFault("letter a 1;", -9, 10);
        kaseFault("letter A 1 1;", -9, 7);
        kaseFault("letter a 1 1 1;", -9, 13);
        kaseFault("letter a 1 1;;", -9, 13);
        kaseFault("letter a -1 1;", -9, 9);
        kaseFault("faint", -9, 5);
        kaseFault("faint;", -9, 5);
        kaseFault("like a;", -9, 6);
        kaseFault("like a 5;", -9, 7);
        kaseFault("price a;", -9, 7);
        kaseFault("follow 1;", -9, 8);
        kaseFault("faint 5;\t", -9, 8);
        kaseFault("faint 5;\u00e9", -9, 8);
    }

    private static void kaseTells() {
        WornType x = new WornType();
        Checks.is("pieces", Checks.kase(x, " letter  a3 10 ; letter b 1 4;letter a 2 007;there a 5 9;there a 1 400;"
            + "price a 3;price a 0;like a b;like a c;like b b;faint5;faint 9 ;follow1 2;  "), 6);
        Checks.is("no fault", x.fault(), -1);
        Checks.is("told 0", x.told(0), 6);
        Checks.is("F, the last", x.told(5), 9);
        Checks.is("pieces of a", x.letter(0, 0), 5);
        Checks.is("left of all a", x.letter(0, 2), 44);
        Checks.is("left of the last a", x.piece(0, 4, 0), 7);
        Checks.is("the price, the last", x.letter(0, 5), 0);
        Checks.is("like, the last", x.letter(0, 6), 2);
        Checks.is("like itself", x.letter(1, 6), 1);
        Checks.is("pieces there", x.letter(0, 7), 6);
        Checks.is("a case for the case", Checks.kase(x, "letter z 12 400;"), 12);
        Checks.is("of the old one nothing stays", x.letter(0, 0) + x.letter(0, 7), 0);
        Checks.is("the price without", x.letter(0, 5), 1);
        Checks.is("like without", x.letter(0, 6), -1);
    }

    private static void kaseLimits() {
        WornType x = new WornType();
        Checks.is("60 clauses", Checks.kase(x, "faint 1;".repeat(60)), 0);
        Checks.is("60 clauses and blanks", Checks.kase(x, "faint 1;".repeat(60) + "   "), 0);
        Checks.is("61 clauses", Checks.kase(x, "faint 1;".repeat(61)), -7);
        Checks.is("at its first byte", x.fault(), 480);
        Checks.is("the 61st is no clause", Checks.kase(x, "faint 1;".repeat(60) + " faints 1;"), -9);
        Checks.is("at its first byte", x.fault(), 481);
        Checks.is("500 bytes", Checks.kase(x, " ".repeat(500)), 0);
        StringBuilder all = new StringBuilder();
        for (char c = 'a'; c <= 'z'; c++) {
            all.append("letter ").append(c).append(" 12 400;");
        }
        Checks.is("all pieces", Checks.kase(x, all.toString()), 312);
        Checks.is("left of all z", x.letter(25, 2), 4800);
    }

    private static void tongueFault(String text, int answer, int place) {
        WornType x = new WornType();
        Checks.is("tongue of " + text, Checks.tongue(x, text), answer);
        Checks.is("fault of " + text, x.fault(), place);
        Checks.is("told 1 of " + text, x.told(1), 0);
    }

    private static void tongueFaults() {
        tongueFault("cat,cat;", -8, 4);
        tongueFault("cat;cat/1;", -8, 4);
        tongueFault("cat/1;cat", -8, 6);
        tongueFault("abcdefghij;", -8, 0);
        tongueFault(" a,abcdefghij/9;", -8, 3);
        tongueFault("cat/4;", -8, 4);
        tongueFault("cat/00000000012;", -8, 4);
        tongueFault("a,b,c,d,e,f;", -7, 10);
        tongueFault("a,b,c,d,e,a;", -8, 10);
        tongueFault("a,b,c,d,e,;", -9, 10);
        tongueFault("cat,;", -9, 4);
        tongueFault("cat/;", -9, 4);
        tongueFault("cat/a;", -9, 4);
        tongueFault("cat/1/1;", -9, 5);
        tongueFault("cat dog;", -9, 4);
        tongueFault("cat", -9, 3);
        tongueFault("cat /  ", -9, 7);
        tongueFault(",cat;", -9, 0);
        tongueFault("cat;;", -9, 4);
        tongueFault("Cat;", -9, 0);
        tongueFault("caT;", -9, 2);
        tongueFault("5;", -9, 0);
    }

    private static void tongueLimits() {
        WornType x = new WornType();
        Checks.is("words, groups and marks", Checks.tongue(x, " cat , bat / 3 ; at/02;abcdefghi,b ; "), 5);
        Checks.is("groups", x.told(7), 3);
        Checks.is("a mark", x.word(1, 1), 3);
        Checks.is("a mark", x.word(2, 1), 2);
        Checks.is("nine letters", x.word(3, 0), 9);
        StringBuilder groups = new StringBuilder();
        for (int i = 0; i < 20; i++) {
            groups.append((char) ('a' + i)).append(';');
        }
        Checks.is("20 groups", Checks.tongue(x, groups + "  "), 20);
        Checks.is("21 groups", Checks.tongue(x, groups + " z;"), -7);
        Checks.is("at its first byte", x.fault(), 41);
        Checks.is("21 groups, told twice", Checks.tongue(x, groups + " a;"), -8);
        Checks.is("21 groups, no word", Checks.tongue(x, groups + " ,a;"), -9);
        StringBuilder words = new StringBuilder();
        for (int i = 0; i < 60; i++) {
            words.append((char) ('a' + i / 20)).append((char) ('a' + i % 20)).append(i % 5 == 4 ? ';' : ',');
        }
        Checks.is("60 words", Checks.tongue(x, words.toString()), 60);
        Checks.is("of 12 groups", x.told(7), 12);
        Checks.is("the last word's group", x.word(59, 2), 11);
        Checks.is("61 words", Checks.tongue(x, words + "z;"), -7);
        Checks.is("at its first byte", x.fault(), 180);
        Checks.is("the tongue stays", x.told(1), 60);
        Checks.is("61 words, one too long", Checks.tongue(x, words + "zzzzzzzzzz;"), -8);
    }

    private static void tongueTakesAway() {
        WornType x = Checks.made("letter a 4 9;", "a;", "a", "a a");
        x.want(0, 1, 1, 1);
        x.set(1, 1);
        x.habit(1);
        x.image();
        Checks.is("a page", x.told(3), 1);
        Checks.is("a tongue with a fault", Checks.tongue(x, "b;b;"), -8);
        Checks.is("texts, pages, wanted stay", 100 * x.told(2) + 10 * x.told(3) + x.told(4), 211);
        Checks.is("the image too", x.count(0), 1);
        Checks.is("a tongue", Checks.tongue(x, "aa;"), 1);
        Checks.is("no texts", x.told(2), 0);
        Checks.is("no pages", x.told(3), 0);
        Checks.is("nothing wanted", x.told(4), 0);
        Checks.is("no images", x.count(0), 0);
        Checks.is("the habit stays", x.told(6), 1);
        Checks.is("the pieces are in the case", x.letter(0, 1), 4);
    }

    private static void textFault(String text, int answer, int place) {
        WornType x = Checks.made("", "cat,bat/1;at;abcdefghi;");
        Checks.is("text of " + text, Checks.text(x, text), answer);
        Checks.is("fault of " + text, x.fault(), place);
        Checks.is("told 2 of " + text, x.told(2), 0);
    }

    private static void textFaults() {
        textFault("", -9, 0);
        textFault("   ", -9, 3);
        textFault("cat dog", -8, 4);
        textFault("catat", -8, 0);
        textFault("ca t", -8, 0);
        textFault("abcdefghij", -8, 0);
        textFault("cat;", -9, 3);
        textFault("cat,bat", -9, 3);
        textFault("cat 5", -9, 4);
        textFault("bat/1", -9, 3);
        textFault("Cat", -9, 0);
        textFault("at at at at at at at at at at at at at", -7, 36);
        textFault("at at at at at at at at at at at at dog", -8, 36);
        textFault("at at at at at at at at at at at at ,", -9, 36);
    }

    private static void textLimits() {
        WornType x = Checks.made("", "cat,bat/1;at;");
        Checks.is("a text", Checks.text(x, "  at  bat "), 0);
        Checks.is("12 words", Checks.text(x, "at ".repeat(12)), 1);
        Checks.is("the 12th", x.at(1, 11), 2);
        Checks.tape(x, "at" + " ".repeat(199));
        Checks.wrong("a text of 201 bytes", () -> x.text(201));
        Checks.is("the tape stays", x.count(1), 220);
        Checks.is("a text of 200 bytes", x.text(200), 2);
        for (int i = 3; i < 8; i++) {
            Checks.is("text " + i, Checks.text(x, "cat"), i);
        }
        Checks.is("a ninth", Checks.text(x, "cat"), -1);
        Checks.is("a ninth with a fault", Checks.text(x, ";"), -1);
        Checks.is("no fault of it", x.fault(), -1);
        Checks.is("the tape is empty", x.count(1), 0);
        Checks.wrong("a ninth of too many bytes", () -> x.text(1));
        Checks.is("eight texts", x.told(2), 8);
    }

    private static void aFaultChangesNothing() {
        WornType x = Checks.made("letter a 3 10;faint 4;price a 6;", "a,aa;", "a", "aa");
        x.set(1, 2);
        x.want(0, 1, 1, 1);
        x.image();
        Checks.is("a case with a fault", Checks.kase(x, "letter b 3 9;faint 9;price a 100;"), -8);
        Checks.is("pieces of a stay", x.letter(0, 0), 3);
        Checks.is("none of b", x.letter(1, 0), 0);
        Checks.is("F stays", x.told(5), 4);
        Checks.is("the price stays", x.letter(0, 5), 6);
        Checks.is("page and image stay", 10 * x.told(3) + x.count(0), 11);
        Checks.is("a text with a fault", Checks.text(x, "aa b"), -8);
        Checks.is("texts stay", x.told(2), 2);
        Checks.is("a case", Checks.kase(x, "letter b 3 9;"), 3);
        Checks.is("no fault of it", x.fault(), -1);
        Checks.is("pages and images are gone", 10 * x.told(3) + x.count(0), 0);
        Checks.is("words, texts and wanted stay", 100 * x.told(1) + 10 * x.told(2) + x.told(4), 221);
        Checks.missing("the page", () -> x.page(0, 0));
    }
}

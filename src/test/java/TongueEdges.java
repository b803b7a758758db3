/** What the document bounds of a TONGUE, a GROUP and a TEXT: the last that is taken and the first that is not. */
final class TongueEdges {
    private TongueEdges() {
    }

    static void run() {
        howManyBytes();
        howManyGroups();
        howManyOfAGroup();
        howManyWords();
        lettersOfAWord();
        marks();
        eachIsToldOnce();
        tongueSigns();
        tongueEndsTooEarly();
        tongueOfOneTheLeast();
        aTongueTakesAway();
        textOfNone();
        wordsOfAText();
        wordsTold();
        textSigns();
        textBytes();
        howManyTexts();
        aNinthText();
        textsStayTheirNumbers();
    }

    private static WornType takes(String text, int words) {
        WornType x = new WornType();
        Checks.is("tongue of \"" + text + "\"", Checks.tongue(x, text), words);
        Checks.is("no fault in \"" + text + "\"", x.fault(), -1);
        Checks.is("told 1 of \"" + text + "\"", x.told(1), words);
        return x;
    }

    private static String groups(int n) {
        StringBuilder text = new StringBuilder();
        for (int i = 0; i < n; i++) {
            text.append((char) ('a' + i)).append(';');
        }
        return text.toString();
    }

    /** Two letters each, by groups of so many. */
    private static String words(int n, int inAGroup) {
        StringBuilder text = new StringBuilder();
        for (int i = 0; i < n; i++) {
            text.append((char) ('a' + i / 26)).append((char) ('a' + i % 26));
            text.append(i % inAGroup == inAGroup - 1 ? ';' : ',');
        }
        return text.toString();
    }

    // "A TONGUE is of up to 500 bytes"; promise 4: the first n, 0 to the TAPE's bytes

    private static void howManyBytes() {
        WornType x = takes(words(60, 5) + " ".repeat(320), 60);
        Checks.is("the last word", x.word(59, 2), 11);
        takes(" ".repeat(320) + words(60, 5), 60);
        Faults.tongue(1, " ".repeat(321) + words(60, 5).substring(0, 179) + "|");
        takes(" ".repeat(500), 0);
        takes("", 0);
        Checks.is("no groups", x.told(7), 12);
        Checks.tape(x, "a;b;");
        Checks.is("n may end within", x.tongue(3), -9);
        Checks.is("there the text ends", x.fault(), 3);
        Checks.tape(x, "a;b;,;");
        Checks.is("behind n is not looked", x.tongue(4), 2);
        x.feed(0x3b3b3b3b, 0, 0, 0, 0);
        Checks.is("none of the tape's bytes", x.tongue(0), 0);
        Checks.is("no groups", x.told(7), 0);
        Checks.is("the tape is empty then", x.count(1), 0);
        Checks.wrong("one of none", () -> x.tongue(1));
    }

    // "{ GROUP ";" }, at most 20"

    private static void howManyGroups() {
        Checks.is("one group", takes("a;", 1).told(7), 1);
        Checks.is("20 groups", takes(groups(20), 20).told(7), 20);
        Checks.is("the last one's number", takes(groups(20) + "  ", 20).word(19, 2), 19);
        Faults.tongue(3, groups(20) + "|u;");
        Faults.tongue(3, groups(20) + "   |u");
        Faults.tongue(3, groups(20) + "|u/4;");
        Faults.tongue(2, groups(19) + "|abcdefghij;u;v;");
    }

    // "GROUP: W { "," W }, at most 5"; "3 a W too many (a 6th of a GROUP)"

    private static void howManyOfAGroup() {
        for (int n = 1; n <= 5; n++) {
            WornType x = takes(words(2 * n, n), 2 * n);
            Checks.is("two groups of " + n, x.told(7), 2);
            Checks.is("the last of the first", x.word(n - 1, 2), 0);
            Checks.is("the first of the second", x.word(n, 2), 1);
        }
        Faults.tongue(3, "a,b,c,d,e,|f;");
        Faults.tongue(3, "a,b,c,d,e, |f");
        Faults.tongue(3, "a,b,c,d,e,|f/4;");
        Faults.tongue(3, "v;w,x;a,b/3,c,d,e,|f,g;");
        Faults.tongue(1, "a,b,c,d,e,|;");
        Faults.tongue(1, "a,b,c,d,e |f;");
    }

    // "W (WORDS, numbered from 0 on, 60 at most)"; "a 61st in all"

    private static void howManyWords() {
        WornType x = takes(words(60, 5), 60);
        Checks.is("of 12 groups", x.told(7), 12);
        Checks.is("the last is word 59", x.word(59, 0), 2);
        Checks.missing("word 60", () -> x.word(60, 0));
        Checks.is("by 20 groups of 3", takes(words(60, 3), 60).told(7), 20);
        Faults.tongue(3, words(60, 5) + "|zz;");
        Faults.tongue(3, words(60, 5) + "  |zz,zy;");
        Faults.tongue(3, words(60, 4) + "|zz/4;");
        Faults.tongue(3, words(60, 4).substring(0, 179) + ",|zz;");
    }

    // "1 to 9 small letters"; "2 a W of more than 9"

    private static void lettersOfAWord() {
        WornType x = takes("a,abcdefghi;zzzzzzzzz,z;", 4);
        int[] due = {1, 9, 9, 1};
        for (int word = 0; word < due.length; word++) {
            Checks.is("letters of word " + word, x.word(word, 0), due[word]);
        }
        Faults.tongue(2, "|abcdefghij;");
        Faults.tongue(2, "|abcdefghij");
        Faults.tongue(2, "a, |abcdefghij;");
        Faults.tongue(2, "|" + "a".repeat(499) + ";");
        Faults.tongue(2, "|" + "a".repeat(500));
        Faults.tongue(1, "|;");
        Faults.tongue(1, "|/1;");
    }

    // "perhaps "/" M (MARK, 0 to 3; 0 without)"

    private static void marks() {
        WornType x = takes("a,b/0,c/1,d/2,e/3;f/0003, g / 2 ;", 7);
        int[] due = {0, 0, 1, 2, 3, 3, 2};
        for (int word = 0; word < due.length; word++) {
            Checks.is("mark of word " + word, x.word(word, 1), due[word]);
        }
        Faults.tongue(2, "a/|4;");
        Faults.tongue(2, "a/|4294967296;");
        Faults.tongue(2, "a/|18446744073709551616;");
        Faults.tongue(2, "a/|10;");
        Faults.tongue(1, "a/|-1;");
        Faults.tongue(1, "a/|b;");
        Faults.tongue(1, "a/|;");
        Faults.tongue(1, "a/|/1;");
        Faults.tongue(1, "a/1|/1;");
        Faults.tongue(1, "a/1 |1;");
        Faults.tongue(1, "a|1;");
    }

    // "each is told once"; "2 told twice"

    private static void eachIsToldOnce() {
        takes("a,aa,aaa;aab,baa;ab;", 6);
        takes("abcdefghi,abcdefghj,bbcdefghi,abcdefgh;", 4);
        Faults.tongue(2, "a,|a;");
        Faults.tongue(2, "a;|a;");
        Faults.tongue(2, "a/1;b,c,|a/2;");
        Faults.tongue(2, "abcdefghi;b;|abcdefghi;");
        Faults.tongue(2, "a,b,c,d,e;f,g;|e,f;");
        Faults.tongue(2, words(59, 5) + "|ab;");
    }

    private static void tongueSigns() {
        Faults.tongue(1, "|`;");
        Faults.tongue(1, "|{;");
        Faults.tongue(1, "a|`;");
        Faults.tongue(1, "a|{;");
        Faults.tongue(1, "a|A;");
        Faults.tongue(1, "|1;");
        Faults.tongue(1, "a;|;");
        Faults.tongue(1, "|,a;");
        Faults.tongue(1, "a,|,b;");
        Faults.tongue(1, "a |b;");
        Faults.tongue(1, "a/1|b;");
        for (char sign : new char[] {0, 9, 10, 31, 33, '+', '-', '.', '0', ':', '<', 127, 160, 172, 187, 255}) {
            Faults.tongue(1, "|" + sign + "a;");
            Faults.tongue(1, "a|" + sign + ";");
            Faults.tongue(1, "a,b;|" + sign);
        }
    }

    private static void tongueEndsTooEarly() {
        for (String text : new String[] {"a", "a,", "a/", "a/1", "a,b", "a/1,", "c;d,a/1,b/2"}) {
            Faults.tongue(1, text + "|");
            Faults.tongue(1, text + "   |");
        }
    }

    // "of one the least": a W too many that can't stand is 1, one told twice or too long is 2

    private static void tongueOfOneTheLeast() {
        String[] full = {groups(20), "a,b,c,d,e,", words(60, 5)};
        String[] told = {"t", "e", "ch"};
        for (int i = 0; i < full.length; i++) {
            Faults.tongue(2, full[i] + "|" + told[i] + ";");
            Faults.tongue(2, full[i] + "|" + told[i] + "/9;");
            Faults.tongue(2, full[i] + "|abcdefghij;");
            Faults.tongue(1, full[i] + "|,");
            Faults.tongue(1, full[i] + "|;");
            Faults.tongue(1, full[i] + "|4;");
        }
        Faults.tongue(3, words(60, 3) + "|zz;");
        Faults.tongue(2, words(60, 3) + "|aa;");
    }

    // Promise 4: "TEXTS, WANTED, PAGES gone: their PIECES are in the CASE; IMAGES too"

    private static void aTongueTakesAway() {
        WornType x = Seen.busy();
        Checks.is("an empty tongue", Checks.tongue(x, ""), 0);
        int[] due = {10, 0, 0, 0, 0, 4, 1, 0};
        for (int what = 0; what < due.length; what++) {
            Checks.is("told " + what + " behind a tongue", x.told(what), due[what]);
        }
        Checks.is("images", x.count(0), 0);
        Checks.is("none to restore", x.restore(), -1);
        Checks.missing("word 0", () -> x.word(0, 0));
        Checks.missing("text 0", () -> x.at(0, 0));
        for (int page = 0; page < 4; page++) {
            int gone = page;
            Checks.missing("page " + page, () -> x.page(gone, 0));
        }
        int[][] left = {{3, 3, 3}, {6, 1, 7}, {399, 400, 400, 400}};
        for (int letter = 0; letter < left.length; letter++) {
            Checks.is("all are in the case", x.letter(letter, 1), left[letter].length);
            for (int i = 0; i < left[letter].length; i++) {
                Checks.is("piece " + i + " of " + letter + " is in the case", x.piece(letter, i, 1), -1);
                Checks.is("with what is left of it", x.piece(letter, i, 0), left[letter][i]);
            }
        }
    }

    // "of a TEXT of none": at the length

    private static void textOfNone() {
        Faults.text(1, "|");
        Faults.text(1, " |");
        Faults.text(1, " ".repeat(200) + "|");
        WornType x = Seen.waiting();
        Checks.is("none of the tape's bytes", x.text(0), -9);
        Checks.is("at the length", x.fault(), 0);
        Checks.is("the tape is empty then", x.count(1), 0);
    }

    // "W { W }, at most 12"; "3 a 13th of a TEXT"

    private static void wordsOfAText() {
        for (int n = 1; n <= 12; n++) {
            WornType x = Checks.made("", "a;b;", "a ".repeat(n - 1) + "b");
            Checks.is("the last word", x.at(0, n - 1), 1);
            Checks.is("the next is none such", x.at(0, n), -1);
            Checks.is("a of " + n, x.needs(0, 0), n - 1);
        }
        Faults.text(3, "a ".repeat(12) + "|a");
        Faults.text(3, "ab  ".repeat(12) + " |c a");
        Faults.text(2, "a ".repeat(12) + "|x");
        Faults.text(2, "a ".repeat(12) + "|abcdefghij");
        Faults.text(1, "a ".repeat(12) + "|1");
        Faults.text(1, "a ".repeat(12) + "|;");
        Faults.text(2, "a ".repeat(11) + "|x a");
    }

    // "each told in the TONGUE"; "2 (of a TEXT) not told"

    private static void wordsTold() {
        Faults.text(2, "|x");
        Faults.text(2, "a |aa");
        Faults.text(2, "a b |abc c");
        Faults.text(2, "|aab");
        Faults.text(2, "|abcdefghijklm");
        Faults.text(2, "|x ;");
        WornType none = new WornType();
        Checks.is("without a tongue none is told", Checks.text(none, "a"), -8);
        Checks.is("at its first byte", none.fault(), 0);
        WornType x = Checks.made("", "abcdefghi,abcdefgh;a/3;", "  abcdefghi a abcdefgh ");
        Checks.is("nine letters", x.at(0, 0), 0);
        Checks.is("a marked one", x.at(0, 1), 2);
        Checks.is("eight letters", x.at(0, 2), 1);
    }

    private static void textSigns() {
        for (char sign : new char[] {0, 9, 10, 31, 33, ',', '/', ';', '1', 'A', '`', '{', 127, 160, 225, 255}) {
            Faults.text(1, "|" + sign);
            Faults.text(1, "a|" + sign);
            Faults.text(1, "a |" + sign + "b");
        }
    }

    // "A TEXT is of up to 200 bytes"; promise 5: "n to 200"

    private static void textBytes() {
        WornType x = Checks.made("", "a;b;");
        Checks.tape(x, " ".repeat(199) + "a" + " ".repeat(300));
        Checks.wrong("201 bytes", () -> x.text(201));
        Checks.wrong("as many as there are", () -> x.text(500));
        Checks.wrong("one more", () -> x.text(501));
        Checks.is("the tape stays", x.count(1), 500);
        Checks.is("no fault of it", x.fault(), -1);
        Checks.is("no text of it", x.told(2), 0);
        Checks.is("200 bytes", x.text(200), 0);
        Checks.is("the last byte counts", x.at(0, 0), 0);
        Checks.tape(x, " ".repeat(200));
        Checks.wrong("201 of 200", () -> x.text(201));
        Checks.is("200 of 200", x.text(200), -9);
        Checks.is("at the length", x.fault(), 200);
        Checks.tape(x, "a b;");
        Checks.is("behind n is not looked", x.text(3), 1);
        Checks.is("the tape is empty", x.count(1), 0);
        Checks.wrong("one of none", () -> x.text(1));
    }

    // "its number, from 0 on; -1: there are 8"

    private static void howManyTexts() {
        WornType x = Checks.made("", "a;b;");
        for (int text = 0; text < 8; text++) {
            int number = text;
            Checks.missing("text " + text + " is not told yet", () -> x.at(number, 0));
            Checks.is("a fault is no text", Checks.text(x, "x"), -8);
            Checks.is("text " + text, Checks.text(x, text % 2 == 0 ? "a" : "b a"), text);
            Checks.is("told 2", x.told(2), text + 1);
        }
        Checks.missing("text 8", () -> x.at(8, 0));
        for (int text = 0; text < 8; text++) {
            Checks.is("its first word", x.at(text, 0), text % 2);
            Checks.is("its second word", x.at(text, 1), text % 2 == 0 ? -1 : 0);
        }
    }

    /** With eight there the TAPE is taken, without being read, and all else stays. */
    private static void aNinthText() {
        for (String text : new String[] {"", "a", "x", ";", "a ".repeat(13)}) {
            WornType x = Seen.busy();
            WornType y = Seen.busy();
            for (int number = 3; number < 8; number++) {
                Checks.is("text " + number, Checks.text(x, "c"), number);
                Checks.text(y, "c");
            }
            Checks.is("a ninth", Checks.text(x, text), -1);
            Checks.is("no fault of it", x.fault(), -1);
            Checks.is("the tape is empty", x.count(1), 0);
            Checks.same("all else behind a ninth", Seen.of(x), Seen.of(y));
        }
        WornType x = Checks.made("", "a;", "a", "a", "a", "a", "a", "a", "a", "a");
        Checks.tape(x, "a");
        Checks.wrong("more than the tape's bytes goes ahead of -1", () -> x.text(21));
        Checks.wrong("less than none goes ahead of -1", () -> x.text(-1));
        Checks.is("the tape stays", x.count(1), 20);
        Checks.is("the ninth", x.text(1), -1);
        Checks.is("a new tongue", Checks.tongue(x, "a;"), 1);
        Checks.is("by it they begin with 0", Checks.text(x, "a"), 0);
    }

    private static void textsStayTheirNumbers() {
        WornType x = Seen.busy();
        Checks.is("behind a fault the next number", Checks.text(x, "c x"), -8);
        Checks.is("is not used up", Checks.text(x, "cc"), 3);
        Checks.is("its word", x.at(3, 0), 4);
        Checks.is("one word only", x.at(3, 1), -1);
        Checks.is("its letters alone", x.needs(3, 2), 2);
    }
}

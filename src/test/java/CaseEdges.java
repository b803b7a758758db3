/** What the document bounds of the TAPE and of a CASE: the last that is taken and the first that is not. */
final class CaseEdges {
    private static final String[] NAMES = {"letter", "there", "price", "faint", "like", "follow"};
    private static final String[] CLAUSES = {"letter a 1 1;", "there a 1 1;", "price a 1;", "faint 1;", "like a b;",
        "follow 1 1;"};

    private CaseEdges() {
    }

    static void run() {
        aNewObject();
        tapeFillsUp();
        bytesOfTheNumbers();
        howManyBytes();
        notBehindTheLastByte();
        howManyClauses();
        piecesOfALetter("letter", 0);
        piecesOfALetter("there", 7);
        oursAndTheirsApart();
        lettersApart();
        printsOfAPiece();
        printsOfAPieceThere();
        prices();
        faint();
        like();
        follow();
        theLastCounts();
        names();
        oneLetterAlone();
        letters();
        digits();
        longNumbers();
        blanks();
        endsTooEarly();
        whatCannotStand();
        theFirstFromTheLeft();
        ofOneTheLeast();
        theLatestText();
        aCaseTakesAway();
    }

    private static WornType takes(String text, int pieces) {
        WornType x = new WornType();
        Checks.is("kase of \"" + text + "\"", Checks.kase(x, text), pieces);
        Checks.is("no fault in \"" + text + "\"", x.fault(), -1);
        return x;
    }

    // Promise 1: "No PIECES, no WORDS, HABIT 0."

    private static void aNewObject() {
        WornType x = new WornType();
        int[] without = {0, 0, 0, 0, 0, 1, -1, 0};
        for (int letter = 0; letter < 26; letter++) {
            for (int what = 0; what < without.length; what++) {
                Checks.is("letter " + letter + ", " + what + " of a new object", x.letter(letter, what), without[what]);
            }
        }
        for (int what = 0; what <= 7; what++) {
            Checks.is("told " + what + " of a new object", x.told(what), 0);
        }
        Checks.is("the habit", x.habit(1), 0);
        Checks.is("most", x.most(0) + x.most(1), 0);
        Checks.is("the one set of none", x.most(2), 1);
        Checks.is("greedy", x.greedy(0) + x.greedy(1), 0);
        Checks.is("bound", x.bound(), 0);
        Checks.is("lost", x.lost(0) + x.lost(100), 0);
        Checks.is("together", x.together(1) + x.together(400), 0);
        Checks.is("forget", x.forget(), 0);
        Checks.is("restore", x.restore(), -1);
        Checks.is("fault", x.fault(), -1);
        Checks.is("count", x.count(0) + x.count(1), 0);
    }

    // Promise 2: twenty bytes a call, 500 in all

    private static void tapeFillsUp() {
        WornType x = new WornType();
        for (int bytes = 20; bytes <= 500; bytes += 20) {
            Checks.is("feed up to " + bytes, x.feed(0x66616974, 0x20202020, 0x20202020, 0x20202020, 0x20202020), bytes);
            Checks.is("count 1", x.count(1), bytes);
        }
        Checks.is("feed over 500", x.feed(0x3b3b3b3b, 0, 0, 0, 0), -1);
        Checks.is("feed over 500 again", x.feed(0, 0, 0, 0, 0), -1);
        Checks.is("nothing came on the tape", x.count(1), 500);
        Checks.wrong("not even then 501 bytes", () -> x.kase(501));
        Checks.is("the first bytes are the old ones", x.kase(500), -9);
        Checks.is("fait can't stand", x.fault(), 0);
        Checks.is("an empty tape takes again", x.feed(0, 0, 0, 0, 0), 20);
    }

    private static void bytesOfTheNumbers() {
        WornType x = new WornType();
        x.feed(0x20202020, Integer.MAX_VALUE, 0, 0, 0);
        Checks.is("127 255 255 255", x.tongue(8), -9);
        Checks.is("127 is the first of them", x.fault(), 4);
        x.feed(0x20202020, Integer.MIN_VALUE, 0, 0, 0);
        Checks.is("128 0 0 0", x.tongue(8), -9);
        Checks.is("128 is the first of them", x.fault(), 4);
        x.feed(0x206162ff, -1, -1, -1, -1);
        Checks.is("255 is the last of the first", x.tongue(20), -9);
        Checks.is("at its place", x.fault(), 3);
        x.feed(0x6162632c, 0x6465662c, 0x67682c69, 0x2c6a6b6c, 0x6d3b6e3b);
        Checks.is("all twenty in their order", x.tongue(20), 6);
        int[] lengths = {3, 3, 2, 1, 4, 1};
        for (int i = 0; i < lengths.length; i++) {
            Checks.is("letters of word " + i, x.word(i, 0), lengths[i]);
        }
    }

    // "A CASE is of up to 500 bytes"; promise 3: the first n, 0 to the TAPE's bytes

    private static void howManyBytes() {
        String whole = "faint 1;".repeat(59) + "letter z 12" + " ".repeat(13) + "400;";
        Checks.is("a test's own text is of 500 bytes", whole.length(), 500);
        WornType x = takes(whole, 12);
        Checks.is("its last clause counts", x.letter(25, 3), 400);
        Faults.kase(1, whole.substring(0, 499) + " |");
        Faults.kase(1, whole.substring(0, 499) + "|,");
        takes("", 0);
        Checks.tape(x, "letter a 12 4;");
        Checks.is("n may end within", x.kase(13), -9);
        Checks.is("there the text ends", x.fault(), 13);
        Checks.tape(x, "letter a 1 400; 7");
        Checks.is("behind n is not looked", x.kase(15), 1);
        Checks.tape(x, "");
        x.feed(0x3b3b3b3b, 0, 0, 0, 0);
        Checks.is("none of the tape's bytes", x.kase(0), 0);
        Checks.is("it is empty then", x.count(1), 0);
        Checks.wrong("one of none", () -> x.kase(1));
    }

    // "The first n bytes of the TAPE": neither those behind them nor those of an earlier TAPE

    private static void notBehindTheLastByte() {
        WornType x = new WornType();
        Checks.tape(x, "faint 12;");
        Checks.is("a number is cut", x.kase(7), -9);
        Checks.is("there the text ends", x.fault(), 7);
        Checks.tape(x, "letter a 1 1; like a b;");
        Checks.is("a clause's name is cut", x.kase(16), -9);
        Checks.is("it is another word then", x.fault(), 14);
        Checks.tape(x, "ab;cab;");
        Checks.is("a word is cut", x.tongue(5), -9);
        Checks.is("there the text ends", x.fault(), 5);
        Checks.tongue(x, "a;ab;b;");
        Checks.tape(x, "abb");
        Checks.is("a word of a text is cut", x.text(2), 0);
        Checks.is("it is another word then", x.at(0, 0), 1);
        Checks.tape(x, "a".repeat(40));
        Checks.is("a long tape", x.text(40), -8);
        Checks.tape(x, " ".repeat(19) + "a");
        Checks.is("a shorter one", x.text(20), 1);
        Checks.is("its last byte is the last", x.at(1, 0), 0);
        Checks.tape(x, "9".repeat(40));
        x.kase(40);
        Checks.tape(x, " ".repeat(13) + "faint 9");
        Checks.is("digits of an earlier tape", x.kase(20), -9);
        Checks.is("do not come behind", x.fault(), 20);
        Checks.tape(x, ";".repeat(40));
        x.kase(40);
        Checks.tape(x, " ".repeat(13) + "faint 9");
        Checks.is("nor do signs", x.kase(20), -9);
    }

    // "at most 60"; "3 a CLAUSE too many (at its first byte)"

    private static void howManyClauses() {
        for (String clause : new String[] {"faint 1;", "price a;"}) {
            String sixty = clause.equals("faint 1;") ? clause.repeat(60) : "faint 1;".repeat(59) + "price a 99;";
            takes(sixty, 0);
            takes(sixty + "  ", 0);
            Faults.kase(3, sixty + "|faint 1;");
            Faults.kase(3, sixty + "  |like a b");
            Faults.kase(3, sixty + "|there");
            Faults.kase(3, sixty + "|letter 5");
            Faults.kase(1, sixty + "|;");
            Faults.kase(1, sixty + " |5");
            Faults.kase(1, sixty + " |fain");
        }
        Faults.kase(2, "faint 1;".repeat(59) + "faint |100;faint");
    }

    // "N PIECES more of the letter c, 1 to 12 of it in all", "there c N P (likewise)"

    private static void piecesOfALetter(String name, int what) {
        for (int n = 1; n <= 12; n++) {
            WornType x = takes(name + " a " + n + " 1;", what == 0 ? n : 0);
            Checks.is(name + " a " + n, x.letter(0, what), n);
            if (n < 12) {
                String both = name + " a " + n + " 1;" + name + " a " + (12 - n) + " 2;";
                Checks.is(both, takes(both, what == 0 ? 12 : 0).letter(0, what), 12);
            }
            Faults.kase(2, name + " a " + n + " 1;" + name + " a |" + (13 - n) + " 1;");
        }
        Faults.kase(2, name + " a |0 1;");
        Faults.kase(2, name + " a |13 1;");
        Faults.kase(2, name + " a 6 1;" + name + " b 12 1;" + name + " a 5 1;" + name + " a |2 1;");
        Faults.kase(2, name + " z 12 400;" + name + " z |12 1;");
        WornType x = takes(name + " a 12 1;" + name + " b 12 1;" + name + " z 12 1;", what == 0 ? 36 : 0);
        Checks.is("12 of a", x.letter(0, what), 12);
        Checks.is("12 of b", x.letter(1, what), 12);
        Checks.is("none of c", x.letter(2, what), 0);
        Checks.is("12 of z", x.letter(25, what), 12);
    }

    private static void oursAndTheirsApart() {
        WornType x = takes("letter a 12 1;there a 12 1;", 12);
        Checks.is("ours", x.letter(0, 0), 12);
        Checks.is("theirs", x.letter(0, 7), 12);
        Checks.is("only ours have prints left", x.letter(0, 2), 12);
    }

    /** Twelve of a letter leave those of its neighbours as they are, whichever are told first. */
    private static void lettersApart() {
        String[] told = {"letter a 12 4;", "letter b 12 7;", "letter c 12 1;"};
        int[] left = {4, 7, 1};
        int[][] orders = {{0, 1, 2}, {2, 1, 0}, {1, 0, 2}, {1, 2, 0}};
        for (int[] order : orders) {
            WornType x = takes(told[order[0]] + told[order[1]] + told[order[2]], 36);
            for (int letter = 0; letter < 3; letter++) {
                Checks.is("left of all of " + letter, x.letter(letter, 2), 12 * left[letter]);
                Checks.is("the most left of " + letter, x.letter(letter, 3), left[letter]);
                Checks.is("none of " + letter + " is worn out", x.letter(letter, 4), 0);
                for (int i = 0; i < 12; i++) {
                    Checks.is("left of " + letter + ", " + i, x.piece(letter, i, 0), left[letter]);
                }
            }
        }
    }

    // "with P prints LEFT each, 1 to 400"

    private static void printsOfAPiece() {
        WornType x = takes("letter a 1 1;letter a 1 400;letter a 2 399;", 4);
        int[] due = {1, 400, 399, 399};
        for (int i = 0; i < due.length; i++) {
            Checks.is("left of piece " + i, x.piece(0, i, 0), due[i]);
        }
        for (String name : new String[] {"letter", "there"}) {
            Faults.kase(2, name + " a 1 |0;");
            Faults.kase(2, name + " a 1 |401;");
            Faults.kase(2, name + " a 12 |1000;");
        }
    }

    /** Of the other town's prints only an exchange tells. */
    private static void printsOfAPieceThere() {
        WornType x = Checks.made("letter b 1 1;there a 1 1;", "a;b;", "a", "b");
        Checks.is("1 print is one more than none", x.exchange(0), 100);
        x = Checks.made("letter a 1 399;there a 1 1;there a 1 400;there a 1 2;", "a;", "a");
        Checks.is("400 prints are more than 399", x.exchange(0), 0);
        x = Checks.made("letter a 1 399;there a 1 399;", "a;", "a");
        Checks.is("399 prints are not", x.exchange(0), -1);
    }

    // "price c V (0 to 99; 1 without)"

    private static void prices() {
        Checks.is("price 0", takes("price a 0;", 0).letter(0, 5), 0);
        Checks.is("price 99", takes("price z 99;", 0).letter(25, 5), 99);
        for (int letter = 0; letter < 26; letter++) {
            Checks.is("the price without", takes("price b 7;", 0).letter(letter, 5), letter == 1 ? 7 : 1);
        }
        Faults.kase(2, "price a |100;");
        Faults.kase(1, "price a |-1;");
    }

    // "faint F (0 to 99; 0 without)"

    private static void faint() {
        Checks.is("faint 0", takes("faint 0;", 0).told(5), 0);
        Checks.is("faint 99", takes("faint 99;", 0).told(5), 99);
        Checks.is("without", takes("", 0).told(5), 0);
        Faults.kase(2, "faint |100;");
        Faults.kase(1, "faint |-1;");
    }

    // "like c e (a FAINT c is read as e)"

    private static void like() {
        WornType x = takes("like a z;like z a;like m m;", 0);
        for (int letter = 0; letter < 26; letter++) {
            int due = letter == 0 ? 25 : letter == 25 ? 0 : letter == 12 ? 12 : -1;
            Checks.is("like of letter " + letter, x.letter(letter, 6), due);
        }
    }

    // "follow M N (a WORD of MARK M is not followed by one of MARK N, 0 to 3 each)"

    private static void follow() {
        for (int pair = 0; pair < 16; pair++) {
            for (int row = 0; row < 16; row++) {
                String text = "wxyz".charAt(row / 4) + " " + "wxyz".charAt(row % 4);
                WornType x = Checks.made("follow " + pair / 4 + " " + pair % 4 + ";", "w;x/1;y/2;z/3;", text);
                String what = "wordings of " + text + " by " + pair / 4 + " " + pair % 4;
                Checks.is(what, x.wordings(0), pair == row ? 0 : 1);
            }
        }
        WornType x = Checks.made("follow 0 3;follow 0 2;follow 3 0;follow 0 3;", "w;x/1;y/2;z/3;",
            "w z", "w y", "z w", "w w", "y w");
        int[] due = {0, 0, 0, 1, 1};
        for (int text = 0; text < due.length; text++) {
            Checks.is("each of them counts, text " + text, x.wordings(text), due[text]);
        }
        Faults.kase(2, "follow |4 0;");
        Faults.kase(2, "follow 0 |4;");
        Faults.kase(2, "follow |4 4;");
        Faults.kase(1, "follow |-1 0;");
        Faults.kase(1, "follow 0 |-1;");
    }

    // "Of price, like of one letter, and faint, the last counts."

    private static void theLastCounts() {
        WornType x = takes("price a 9;price b 8;price a 0;like a b;like b c;like a d;faint 99;faint 0;price a 1;"
            + "price a 0;", 0);
        Checks.is("price of a", x.letter(0, 5), 0);
        Checks.is("price of b", x.letter(1, 5), 8);
        Checks.is("like of a", x.letter(0, 6), 3);
        Checks.is("like of b", x.letter(1, 6), 2);
        Checks.is("faint", x.told(5), 0);
    }

    private static void names() {
        for (int i = 0; i < NAMES.length; i++) {
            String rest = CLAUSES[i].substring(NAMES[i].length());
            takes(CLAUSES[i], i == 0 ? 1 : 0);
            takes("  " + NAMES[i] + "  " + rest.replace(" ", "   ").replace(";", "  ;  "), i == 0 ? 1 : 0);
            Faults.kase(1, "|" + NAMES[i].substring(1) + rest);
            Faults.kase(1, "|" + NAMES[i].substring(0, NAMES[i].length() - 1) + rest);
            Faults.kase(1, "|" + NAMES[i] + "s" + rest);
            Faults.kase(1, "|" + NAMES[i].substring(0, NAMES[i].length() - 1) + "x" + rest);
            Faults.kase(1, "|x" + NAMES[i].substring(1) + rest);
            Faults.kase(1, "|" + NAMES[i].toUpperCase() + rest);
            Faults.kase(1, "faint 3;|x" + NAMES[i] + rest);
        }
    }

    // "c, e: one small letter alone", "2 more letters than one"

    private static void oneLetterAlone() {
        for (int i = 0; i < NAMES.length; i++) {
            if (i != 3 && i != 5) {
                String rest = CLAUSES[i].substring(NAMES[i].length() + 2);
                Faults.kase(2, NAMES[i] + " |aa" + rest);
                Faults.kase(2, NAMES[i] + " |abcdefghijklm" + rest);
                Faults.kase(1, NAMES[i] + " |A" + rest);
                Faults.kase(1, NAMES[i] + " |1" + rest);
                Faults.kase(1, NAMES[i] + "|;");
                takes(NAMES[i] + " z" + rest, i == 0 ? 1 : 0);
            }
        }
        Faults.kase(2, "like a |bb;");
        Faults.kase(2, "like |ab;");
        Faults.kase(1, "like a |1;");
        Faults.kase(2, "letter |ab");
    }

    private static void letters() {
        takes("letter a 1 1;letter z 1 1;", 2);
        Faults.kase(1, "letter |` 1 1;");
        Faults.kase(1, "letter |{ 1 1;");
        Faults.kase(1, "letter a|` 1 1;");
        Faults.kase(1, "letter a|{ 1 1;");
        Faults.kase(1, "letter |\u00e1 1 1;");
        Faults.kase(1, "letter |\u00fa 1 1;");
        Faults.kase(1, "letter a|A 1 1;");
    }

    // "Numbers: digits, as many as stand there"

    private static void digits() {
        WornType x = takes("letter a 1 102;letter a 1 345;letter a 1 67;letter a 1 89;", 4);
        Checks.is("all ten digits", x.letter(0, 2), 603);
        Faults.kase(1, "faint |/;");
        Faults.kase(1, "faint |:;");
        Faults.kase(1, "faint 1|/;");
        Faults.kase(1, "faint 1|:;");
        Faults.kase(1, "faint |\u00b1;");
        Faults.kase(1, "faint |+1;");
        Faults.kase(1, "faint 1|.0;");
        Faults.kase(1, "faint |a;");
        Faults.kase(1, "faint 1 |1;");
        Faults.kase(2, "follow |12;");
        Faults.kase(1, "letter a 11|;");
    }

    private static void longNumbers() {
        for (String number : new String[] {"4294967297", "2147483649", "18446744073709551617", "9223372036854775809",
            "1000001", "10000000000", "9".repeat(450)}) {
            Faults.kase(2, "faint |" + number + ";");
            Faults.kase(2, "letter a |" + number + " 1;");
            Faults.kase(2, "there a 1 |" + number + ";");
        }
        Checks.is("many digits of little worth", takes("faint " + "0".repeat(450) + "99;", 0).told(5), 99);
        Faults.kase(2, "faint |" + "0".repeat(450) + "100;");
        Checks.is("0 by many digits", takes("price a " + "0".repeat(450) + ";", 0).letter(0, 5), 0);
    }

    // "blanks (32) may stand ahead of all these, and at the end"

    private static void blanks() {
        WornType x = takes("letter a3 4;letter  b  3  4  ;there c3 4 ;price a9;faint9;follow1 2;follow 3 0;", 6);
        Checks.is("three a", x.letter(0, 0), 3);
        Checks.is("the price", x.letter(0, 5), 9);
        takes(" ".repeat(500), 0);
        takes(" ", 0);
        for (char sign : new char[] {0, 9, 10, 13, 31, 33, 127, 160, 255}) {
            Faults.kase(1, "|" + sign + "faint 1;");
            Faults.kase(1, "faint|" + sign + "1;");
            Faults.kase(1, "faint 1|" + sign + ";");
            Faults.kase(1, "faint 1;|" + sign);
        }
        Faults.kase(1, "|lettera 1 1;");
        Faults.kase(2, "like |ab;");
    }

    // "1 what can't stand there (at the length, if the text ends too early)"

    private static void endsTooEarly() {
        String[] cut = {"letter", "letter a", "letter a 1", "letter a 1 1", "there", "there a", "there a 1",
            "there a 1 1", "price", "price a", "price a 1", "faint", "faint 1", "like", "like a", "like a b", "follow",
            "follow 1", "follow 1 1"};
        for (String text : cut) {
            Faults.kase(1, text + "|");
            Faults.kase(1, text + "   |");
            Faults.kase(1, "price c 4;  " + text + " |");
        }
        Faults.kase(1, "|lette");
        Faults.kase(1, "price c 4;|l");
    }

    private static void whatCannotStand() {
        String[] signs = {",", "/", ".", "-", "A"};
        for (String sign : signs) {
            Faults.kase(1, "|" + sign);
            Faults.kase(1, "faint 1|" + sign);
            Faults.kase(1, "faint 1;|" + sign + "faint 1;");
            Faults.kase(1, "letter a|" + sign + "1 1;");
            Faults.kase(1, "letter a 1|" + sign + "1;");
        }
        Faults.kase(1, "|;faint 1;");
        Faults.kase(1, "faint 1;|;");
        Faults.kase(1, "faint|;");
        Faults.kase(1, "letter|;");
        Faults.kase(1, "letter a|;");
        Faults.kase(1, "letter a 1|;");
        Faults.kase(1, "letter a 1 1 |1;");
        Faults.kase(1, "like a b |c;");
        Faults.kase(1, "like a|;");
        Faults.kase(1, "follow|;");
        Faults.kase(1, "follow 1|;");
        Faults.kase(1, "follow 1 1 |1;");
        Faults.kase(1, "price a|;");
        Faults.kase(1, "price a 1 |1;");
        Faults.kase(1, "faint 1 |faint 1;");
    }

    // "FAULTS, the first from the left"

    private static void theFirstFromTheLeft() {
        Faults.kase(2, "letter a |0 0;");
        Faults.kase(2, "letter |ab 0 0;");
        Faults.kase(2, "letter a |13 ,");
        Faults.kase(2, "letter a 1 |401 ,");
        Faults.kase(1, "letter a 1 |, faint 100;");
        Faults.kase(2, "faint |100;faint ,");
        Faults.kase(1, "faint |,;faint 100;");
        Faults.kase(2, "price |ab 100;");
        Faults.kase(2, "price a |100 1;");
        Faults.kase(2, "follow |4 ,;");
        Faults.kase(2, "like |ab 4;");
    }

    // "of one the least": a CLAUSE too many that can't stand is 1

    private static void ofOneTheLeast() {
        String sixty = "faint 1;".repeat(60);
        Faults.kase(1, sixty + "|,");
        Faults.kase(1, sixty + "|x;");
        Faults.kase(3, sixty + "|follow 4 4;");
    }

    // Promise 6: "The place of the FAULT of the latest text; NONE without."

    private static void theLatestText() {
        WornType x = new WornType();
        Checks.is("of none", x.fault(), -1);
        Checks.kase(x, "faint 100;");
        Checks.is("of the case", x.fault(), 6);
        Checks.tape(x, "a;a;");
        Checks.is("a tape is no text", x.fault(), 6);
        Checks.wrong("n too much", () -> x.tongue(21));
        Checks.is("one refused is no text", x.fault(), 6);
        x.tongue(4);
        Checks.is("of the tongue", x.fault(), 2);
        Checks.tongue(x, "a;");
        Checks.is("without", x.fault(), -1);
        Checks.text(x, "b");
        Checks.is("of the text", x.fault(), 0);
        Checks.text(x, "a");
        Checks.is("without", x.fault(), -1);
        Checks.tongue(x, "a");
        Checks.is("at the length", x.fault(), 1);
        x.kase(0);
        Checks.is("without", x.fault(), -1);
    }

    // Promise 3: "PAGES, IMAGES gone; TONGUE, TEXTS, WANTED stay"

    private static void aCaseTakesAway() {
        WornType x = Seen.busy();
        Checks.is("an empty case", Checks.kase(x, ""), 0);
        int[] due = {0, 6, 3, 0, 3, 0, 1, 3};
        for (int what = 0; what < due.length; what++) {
            Checks.is("told " + what + " behind a case", x.told(what), due[what]);
        }
        Checks.is("images", x.count(0), 0);
        Checks.is("none to restore", x.restore(), -1);
        for (int page = 0; page < 4; page++) {
            int gone = page;
            Checks.missing("page " + page, () -> x.page(gone, 0));
        }
        for (int letter = 0; letter < 4; letter++) {
            Checks.is("pieces", x.letter(letter, 0), 0);
            Checks.is("price", x.letter(letter, 5), 1);
            Checks.is("like", x.letter(letter, 6), -1);
            Checks.is("pieces there", x.letter(letter, 7), 0);
        }
        WornType y = Seen.busy();
        Checks.is("a case", Checks.kase(y, "letter a 2 9;letter b 3 7;letter c 2 400;"), 7);
        Checks.is("all are in the case", y.letter(0, 1) + y.letter(1, 1) + y.letter(2, 1), 7);
        Checks.is("what is wanted stays, by its weeks", y.greedy(1), 7);
        Checks.is("the texts stay", y.at(1, 0), 5);
        Checks.is("the words stay", y.word(3, 1), 1);
    }
}

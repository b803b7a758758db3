/** What the document bounds of PIECES, PAGES and what is READ (its section 2, promises 7 to 20). */
final class PageEdges {
    private PageEdges() {
    }

    static void run() {
        aLetterWithout();
        fullLetter();
        theMostLeftIsAnyOne();
        wornOutIsLeftNothing();
        allOnPages();
        piecesByNumber();
        pricesOfWords();
        needsOfATextFull();
        habitsAreTwo();
        canFromNotOnceTo400();
        canNeedsAsManyPieces();
        canDoesNotAskForAPage();
        canOfWordsAlone();
        lacksTheFirstLetter();
        lacksByOneCopy();
        setByOneCopy();
        setAllPieces();
        setTakesTheFirstOfAlike();
        setTakesOfThoseThatWillDo();
        setTakesOfItsOwnLetter();
        fourPagesAndNoFifth();
        pagesByTheirTexts();
        printByOneCopy();
        printOnlyThisPage();
        printNothingOfAWornPage();
        apartGivesAllBack();
        faintIsFewerThanF();
        faintByF0AndF99();
        readEachPlace();
        readByLikeAlone();
        readWhereEachPieceStands();
        readOfTheHabitThatSet();
    }

    // Promise 8: "0 PIECES, 1 those in the CASE, 2 LEFT of all, 3 the most LEFT of one (0 without) .."

    private static void aLetterWithout() {
        WornType x = Checks.made("letter b 12 400;there b 12 400;price b 99;like b a;", "b;");
        int[] without = {0, 0, 0, 0, 0, 1, -1, 0};
        for (int letter = 0; letter < 26; letter++) {
            for (int what = 0; what < without.length && letter != 1; what++) {
                Checks.is("letter " + letter + ", " + what, x.letter(letter, what), without[what]);
            }
        }
    }

    private static void fullLetter() {
        WornType x = Checks.made("letter z 12 400;there z 12 400;price z 99;like z z;", "z;");
        int[] due = {12, 12, 4800, 400, 0, 99, 25, 12};
        for (int what = 0; what < due.length; what++) {
            Checks.is("letter 25, " + what, x.letter(25, what), due[what]);
        }
    }

    private static void theMostLeftIsAnyOne() {
        for (int most = 0; most < 12; most++) {
            StringBuilder text = new StringBuilder();
            for (int i = 0; i < 12; i++) {
                text.append("letter y 1 ").append(i == most ? 400 : 399).append(';');
            }
            Checks.is("the most is that of piece " + most, Checks.made(text.toString(), "").letter(24, 3), 400);
        }
        Checks.is("the only one", Checks.made("letter y 1 7;letter z 1 9;", "").letter(24, 3), 7);
    }

    private static void wornOutIsLeftNothing() {
        WornType x = Checks.made("letter a 1 3;letter a 1 4;letter a 1 1;", "aa;", "aa");
        Checks.is("set", x.set(0, 3), 0);
        Checks.is("none is worn out at first", x.letter(0, 4), 0);
        Checks.is("by two prints none", x.print(0, 2), 0);
        Checks.is("1 left is not worn out", x.letter(0, 4), 0);
        Checks.is("by the third one is", x.print(0, 1), 1);
        Checks.is("it is worn out", x.letter(0, 4), 1);
        Checks.is("left of all", x.letter(0, 2), 2);
        Checks.is("the most left", x.letter(0, 3), 1);
        Checks.is("they are pieces all the same", x.letter(0, 0), 3);
        x.apart(0);
        Checks.is("the worn out one is in the case too", x.letter(0, 1), 3);
        Checks.is("but it is not set any more", x.set(0, 1), 0);
        Checks.is("the first stays", x.piece(0, 0, 1), -1);
    }

    private static void allOnPages() {
        WornType x = Checks.made("letter a 2 9;", "a;", "a");
        x.set(0, 1);
        Checks.is("one in the case", x.letter(0, 1), 1);
        x.set(0, 1);
        Checks.is("none in the case", x.letter(0, 1), 0);
        Checks.is("both are pieces", x.letter(0, 0), 2);
        Checks.is("left of all is of all", x.letter(0, 2), 18);
        Checks.is("the most left is of all", x.letter(0, 3), 9);
        Checks.is("the page of the first", x.piece(0, 0, 1), 0);
        Checks.is("the page of the second", x.piece(0, 1, 1), 1);
    }

    // Promise 9; "PIECES of a letter are numbered from 0 on, as told"

    private static void piecesByNumber() {
        StringBuilder text = new StringBuilder("letter b 1 99;");
        for (int i = 0; i < 12; i++) {
            text.append("letter a 1 ").append(400 - 7 * i).append(";letter y 1 5;");
        }
        WornType x = Checks.made(text.toString(), "a;");
        for (int i = 0; i < 12; i++) {
            Checks.is("left of piece " + i, x.piece(0, i, 0), 400 - 7 * i);
            Checks.is("piece " + i + " is in the case", x.piece(0, i, 1), -1);
        }
        Checks.raises("the 13th", IndexOutOfBoundsException.class, () -> x.piece(0, 12, 0));
        Checks.raises("the 13th of y", IndexOutOfBoundsException.class, () -> x.piece(24, 12, 0));
        Checks.raises("the second of b", IndexOutOfBoundsException.class, () -> x.piece(1, 1, 1));
        Checks.raises("the first of c", IndexOutOfBoundsException.class, () -> x.piece(2, 0, 1));
    }

    // Promise 10: "3 PRICE"

    private static void pricesOfWords() {
        WornType x = Checks.made("price z 99;price a 0;", "zzzzzzzzz,a,aaaaaaaaa,b,zab;");
        int[] due = {891, 0, 0, 1, 100};
        for (int word = 0; word < due.length; word++) {
            Checks.is("price of word " + word, x.word(word, 3), due[word]);
        }
    }

    // Promise 12

    private static void needsOfATextFull() {
        WornType x = Checks.made("letter a 12 400;letter z 12 400;", "aaaaaaaaa;zzzzzzzzz;", "aaaaaaaaa ".repeat(12),
            "zzzzzzzzz ".repeat(11) + "aaaaaaaaa");
        Checks.is("108 of a", x.needs(0, 0), 108);
        Checks.is("none of z", x.needs(0, 25), 0);
        Checks.is("99 of z", x.needs(1, 25), 99);
        Checks.is("9 of a", x.needs(1, 0), 9);
        Checks.is("12 pieces are too few", x.can(0), 0);
        Checks.is("a lacks", x.lacks(0, 1), 0);
        Checks.is("z lacks", x.lacks(1, 1), 25);
        Checks.is("it can't be set", x.set(0, 1), -1);
    }

    // Promise 13, promise 1: HABIT 0

    private static void habitsAreTwo() {
        WornType x = new WornType();
        Checks.is("the first habit", x.habit(0), 0);
        Checks.is("the same again", x.habit(1), 0);
        Checks.is("the other one", x.habit(1), 1);
        for (int wrong : new int[] {-1, 2, Integer.MIN_VALUE, Integer.MAX_VALUE}) {
            Checks.wrong("habit " + wrong, () -> x.habit(wrong));
            Checks.is("it stays", x.told(6), 1);
        }
        Checks.is("back", x.habit(0), 1);
        Checks.is("told", x.told(6), 0);
    }

    // "It CAN be so often: the most copies for which it can be SET (0: not once)"

    private static void canFromNotOnceTo400() {
        WornType x = Checks.made("letter a 1 400;letter b 1 1;", "a;b;c;", "a", "b", "c", "a b");
        int[] due = {400, 1, 0, 1};
        for (int text = 0; text < due.length; text++) {
            Checks.is("can " + text, x.can(text), due[text]);
        }
        x.set(1, 1);
        x.print(0, 1);
        x.apart(0);
        Checks.is("by a worn out one not once", x.can(1), 0);
        Checks.is("nor with others", x.can(3), 0);
        Checks.is("as often as ever", x.can(0), 400);
    }

    private static void canNeedsAsManyPieces() {
        WornType x = Checks.made("letter a 9 7;letter a 1 5;letter a 1 399;letter a 1 3;", "a;aaaaaaaaa;aa;",
            "aaaaaaaaa aa a", "aaaaaaaaa aa", "aaaaaaaaa a", "aaaaaaaaa aa a a", "a");
        int[] due = {3, 5, 7, 0, 399};
        for (int text = 0; text < due.length; text++) {
            Checks.is("can " + text, x.can(text), due[text]);
            Checks.is("for so many it lacks nothing", x.lacks(text, Math.max(due[text], 1)), due[text] == 0 ? 0 : -1);
            Checks.is("for one more it does", x.lacks(text, due[text] + 1), 0);
        }
    }

    private static void canDoesNotAskForAPage() {
        WornType x = Checks.made("letter a 5 6;", "a;aa;", "a", "aa");
        for (int page = 0; page < 4; page++) {
            Checks.is("set", x.set(0, 1), page);
        }
        Checks.is("can with four standing", x.can(0), 6);
        Checks.is("lacks nothing with four standing", x.lacks(0, 6), -1);
        Checks.is("a word with four standing", x.word(0, 4), 6);
        Checks.is("can by the pieces in the case", x.can(1), 0);
    }

    // Promise 10: "4 how often it CAN be alone"

    private static void canOfWordsAlone() {
        WornType x = Checks.made("letter a 1 9;letter a 1 4;letter b 1 400;", "a,aa,aaa;b,ab,aab;c;", "a");
        int[] due = {9, 4, 0, 400, 9, 4, 0};
        for (int word = 0; word < due.length; word++) {
            Checks.is("word " + word + " alone", x.word(word, 4), due[word]);
        }
        x.set(0, 9);
        Checks.is("from the case", x.word(0, 4), 4);
        Checks.is("two of them", x.word(1, 4), 0);
    }

    // Promise 15: "The first letter of which there are too few PIECES"

    private static void lacksTheFirstLetter() {
        WornType x = Checks.made("letter m 1 9;", "zma;mz;m;", "zma", "mz", "m");
        Checks.is("a ahead of z", x.lacks(0, 1), 0);
        Checks.is("z", x.lacks(1, 1), 25);
        Checks.is("m ahead of z", x.lacks(1, 10), 12);
        Checks.is("a ahead of m", x.lacks(0, 10), 0);
        Checks.is("what is not needed does not lack", x.lacks(2, 9), -1);
        Checks.is("m alone", x.lacks(2, 10), 12);
    }

    private static void lacksByOneCopy() {
        WornType x = Checks.made("letter a 2 400;letter b 1 1;", "a;b;aaa;", "a", "b", "aaa", "a a");
        Checks.is("400 of 400", x.lacks(0, 400), -1);
        Checks.is("1 of 1", x.lacks(1, 1), -1);
        Checks.is("2 of 1", x.lacks(1, 2), 1);
        Checks.is("2 pieces of 2", x.lacks(3, 400), -1);
        Checks.is("3 pieces of 2", x.lacks(2, 1), 0);
        x.set(0, 1);
        Checks.is("2 pieces of 1", x.lacks(3, 1), 0);
        x.set(0, 1);
        Checks.is("1 piece of none", x.lacks(0, 1), 0);
    }

    // Promise 16, "of PIECES in the CASE with no fewer LEFT as many as it needs"

    private static void setByOneCopy() {
        WornType x = Checks.made("letter a 1 400;letter b 1 5;", "a;b;", "a", "b", "a b");
        Checks.is("6 of 5", x.set(1, 6), -1);
        Checks.is("6 of 5 with others", x.set(2, 6), -1);
        Checks.is("nothing of it is taken", x.letter(0, 1) + x.letter(1, 1), 2);
        Checks.is("no page", x.told(3), 0);
        Checks.is("5 of 5", x.set(1, 5), 0);
        Checks.is("400 of 400", x.set(0, 400), 1);
        Checks.is("none is left in the case", x.set(0, 1), -1);
        Checks.is("setting prints nothing", x.letter(0, 2) + x.letter(1, 2), 405);
    }

    private static void setAllPieces() {
        WornType x = Checks.made("letter a 12 2;", "a;aaaaaaaaa;aaa;", "aaaaaaaaa aaa", "aaaaaaaaa aaa a", "a");
        Checks.is("13 of 12", x.set(1, 1), -1);
        Checks.is("12 of 12", x.set(0, 2), 0);
        Checks.is("12 pieces", x.page(0, 1), 12);
        for (int i = 0; i < 12; i++) {
            Checks.is("piece " + i, x.piece(0, i, 1), 0);
        }
        Checks.is("one of none", x.set(2, 1), -1);
        Checks.is("12 are worn out", x.print(0, 2), 12);
        Checks.is("12 are taken apart", x.apart(0), 12);
    }

    // "of alike ones the first"

    private static void setTakesTheFirstOfAlike() {
        for (int habit = 0; habit <= 1; habit++) {
            WornType x = Checks.made("letter a 3 5;letter b 1 6;letter b 2 5;letter b 1 6;", "a;aa;b;", "a", "aa", "b");
            x.habit(habit);
            x.set(0, 1);
            Checks.is("the first of alike by " + habit, x.piece(0, 0, 1), 0);
            x.set(1, 1);
            Checks.is("the next", x.piece(0, 1, 1), 1);
            Checks.is("and the last", x.piece(0, 2, 1), 1);
            x.set(2, 1);
            Checks.is("of b by " + habit, x.piece(1, habit == 0 ? 1 : 0, 1), 2);
            x.set(2, 1);
            Checks.is("the next by " + habit, x.piece(1, habit == 0 ? 2 : 3, 1), 3);
        }
    }

    private static void setTakesOfThoseThatWillDo() {
        for (int habit = 0; habit <= 1; habit++) {
            WornType x = Checks.made("letter a 1 3;letter a 1 4;letter a 1 5;letter a 1 400;", "a;aaa;", "a", "aaa");
            x.habit(habit);
            x.set(0, 4);
            Checks.is("the one with 3 does not do", x.piece(0, 0, 1), -1);
            Checks.is("4 of 4 by " + habit, x.piece(0, 1, 1), habit == 0 ? 0 : -1);
            Checks.is("400 of 4 by " + habit, x.piece(0, 3, 1), habit == 0 ? -1 : 0);
            Checks.is("three of 4 are no more", x.set(1, 4), -1);
            Checks.is("three of 3 are", x.set(1, 3), 1);
        }
    }

    /** Twelve pieces of each stand in a row with those of the next letter, which would do better. */
    private static void setTakesOfItsOwnLetter() {
        for (int habit = 0; habit <= 1; habit++) {
            String twelve = " 12 " + (habit == 0 ? 5 : 400) + ";";
            WornType x = Checks.made("letter a" + twelve + "letter b 1 20;letter b 10 7;letter b 1 20;letter c" + twelve,
                "b;bbb;", "b", "bbb");
            x.habit(habit);
            Checks.is("can", x.can(0), 20);
            Checks.is("can", x.can(1), 7);
            Checks.is("set", x.set(0, 2), 0);
            Checks.is("one of b by " + habit, x.piece(1, habit == 0 ? 1 : 0, 1), 0);
            Checks.is("set", x.set(1, 2), 1);
            Checks.is("b in the case", x.letter(1, 1), 8);
            Checks.is("a in the case", x.letter(0, 1), 12);
            Checks.is("c in the case", x.letter(2, 1), 12);
        }
    }

    // "they are on the least PAGE that is free", "-2: four stand"

    private static void fourPagesAndNoFifth() {
        WornType x = Checks.made("letter a 8 5;letter a 1 7;", "a;aa;", "a", "aa");
        Checks.missing("page 0 of none", () -> x.page(0, 0));
        for (int page = 0; page < 4; page++) {
            Checks.is("page " + page, x.set(0, 5), page);
            Checks.is("told 3", x.told(3), page + 1);
            int next = page + 1;
            Checks.missing("page " + next, () -> x.page(next, 0));
        }
        Checks.is("a fifth", x.set(0, 1), -2);
        Checks.is("a fifth of more pieces", x.set(1, 5), -2);
        Checks.is("a fifth that can't be", x.set(0, 8), -1);
        Checks.is("a fifth that can't be by its pieces", x.set(1, 6), -1);
        Checks.missing("a fifth of no text", () -> x.set(2, 1));
        Checks.wrong("a fifth of no copies", () -> x.set(0, 0));
        Checks.is("nothing of it is taken", x.letter(0, 1), 5);
        Checks.is("four stand", x.told(3), 4);
        for (int page = 3; page >= 0; page--) {
            Checks.is("apart", x.apart(page), 1);
            Checks.is("the one that is free", x.set(1, 1), page);
            Checks.is("its text", x.page(page, 0), 1);
            Checks.is("again four", x.set(0, 1), -2);
        }
        x.apart(3);
        x.apart(1);
        x.apart(0);
        Checks.is("the least", x.set(0, 1), 0);
        Checks.is("then the next", x.set(0, 1), 1);
        Checks.is("then the last", x.set(0, 1), 3);
        Checks.is("then none", x.set(0, 1), -2);
    }

    // Promise 19: "0 its TEXT, 1 PIECES"

    private static void pagesByTheirTexts() {
        WornType x = Checks.made("letter a 12 9;", "a;aa;", "a", "aa", "aa a", "aa aa", "a a", "a a a",
            "aa aa a", "aa a aa a");
        int[] texts = {7, 0, 2, 1};
        int[] pieces = {6, 1, 3, 2};
        for (int page = 0; page < 4; page++) {
            Checks.is("set text " + texts[page], x.set(texts[page], 1), page);
        }
        for (int page = 0; page < 4; page++) {
            Checks.is("text of page " + page, x.page(page, 0), texts[page]);
            Checks.is("pieces of page " + page, x.page(page, 1), pieces[page]);
        }
        Checks.is("all are on pages", x.letter(0, 1), 0);
    }

    // Promise 17: "-1, printing nothing: some has fewer LEFT"

    private static void printByOneCopy() {
        WornType x = Checks.made("letter a 1 400;letter b 1 400;letter c 1 3;", "a;ab;c;", "ab", "c a", "ab c");
        x.set(0, 1);
        Checks.is("how often", x.page(0, 3), 400);
        Checks.is("400 of 400", x.print(0, 400), 2);
        Checks.is("both are worn out", x.letter(0, 4) + x.letter(1, 4), 2);
        Checks.is("no more", x.page(0, 3), 0);
        Checks.is("not one more", x.print(0, 1), -1);
        WornType y = Checks.made("letter a 1 400;letter b 1 400;letter c 1 3;", "a;ab;c;", "ab c");
        y.set(0, 3);
        Checks.is("4 of 3", y.print(0, 4), -1);
        Checks.is("nothing is printed", y.letter(0, 2) + y.letter(1, 2) + y.letter(2, 2), 803);
        Checks.is("how often", y.page(0, 3), 3);
        Checks.is("more than it was set for may be printed", y.print(0, 2), 0);
        Checks.is("how often then", y.page(0, 3), 1);
        Checks.is("2 of 1", y.print(0, 2), -1);
        Checks.is("1 of 1", y.print(0, 1), 1);
        Checks.is("left", y.letter(0, 2) + y.letter(1, 2) + y.letter(2, 2), 794);
        WornType z = Checks.made("letter a 1 9;", "a;", "a");
        z.set(0, 2);
        Checks.is("9 of a page that was set for 2", z.print(0, 9), 1);
    }

    private static void printOnlyThisPage() {
        WornType x = Checks.made("letter a 4 9;", "a;", "a");
        for (int page = 0; page < 3; page++) {
            x.set(0, 1);
        }
        Checks.is("print", x.print(1, 9), 1);
        int[] left = {9, 0, 9, 9};
        for (int i = 0; i < left.length; i++) {
            Checks.is("left of piece " + i, x.piece(0, i, 0), left[i]);
        }
        Checks.missing("the page that is free", () -> x.print(3, 1));
    }

    private static void printNothingOfAWornPage() {
        WornType x = Checks.made("letter a 1 1;letter b 1 9;", "ab;", "ab");
        x.set(0, 1);
        Checks.is("by it one is worn out", x.print(0, 1), 1);
        for (int copies : new int[] {1, 2, 400}) {
            Checks.is("no more", x.print(0, copies), -1);
        }
        Checks.is("b is as it was", x.letter(1, 2), 8);
        Checks.is("it stands all the same", x.page(0, 1), 2);
    }

    // Promise 18

    private static void apartGivesAllBack() {
        WornType x = Checks.made("letter a 3 9;letter b 2 4;", "aab;b;", "aab", "b");
        Checks.missing("apart of none", () -> x.apart(0));
        x.set(0, 1);
        x.set(1, 1);
        x.print(0, 4);
        Checks.is("apart", x.apart(0), 3);
        Checks.missing("apart again", () -> x.apart(0));
        Checks.missing("print", () -> x.print(0, 1));
        Checks.missing("read", () -> x.read(0, 0));
        Checks.missing("page", () -> x.page(0, 0));
        Checks.is("one stands", x.told(3), 1);
        Checks.is("a in the case", x.letter(0, 1), 3);
        Checks.is("b in the case", x.letter(1, 1), 1);
        Checks.is("left of a stays", x.letter(0, 2), 19);
        Checks.is("the other one has one piece", x.apart(1), 1);
        Checks.is("none stands", x.told(3), 0);
    }

    // "FAINT is a PIECE with fewer LEFT than F"

    private static void faintIsFewerThanF() {
        WornType x = Checks.made("letter a 1 6;letter a 1 5;letter a 1 4;faint 5;like a b;", "a;b;", "a a a");
        x.set(0, 1);
        Checks.is("of 4, 5, 6 one is faint by 5", x.page(0, 2), 1);
        Checks.is("4 is read as b", x.read(0, 0), 1);
        Checks.is("5 is read as a", x.read(0, 1), 0);
        Checks.is("6 is read as a", x.read(0, 2), 0);
        Checks.is("one otherwise", x.page(0, 4), 1);
        x.print(0, 1);
        Checks.is("of 3, 4, 5 two", x.page(0, 2), 2);
        x.print(0, 1);
        Checks.is("of 2, 3, 4 three", x.page(0, 2), 3);
        Checks.is("three otherwise", x.page(0, 4), 3);
        x.print(0, 2);
        Checks.is("worn out ones are faint too", x.page(0, 2), 3);
    }

    private static void faintByF0AndF99() {
        WornType x = Checks.made("letter a 1 1;like a b;", "a;b;", "a");
        x.set(0, 1);
        x.print(0, 1);
        Checks.is("by 0 not even a worn out one is faint", x.page(0, 2), 0);
        Checks.is("it is read as it is", x.read(0, 0), 0);
        x = Checks.made("letter a 1 1;like a b;faint 1;", "a;b;", "a");
        x.set(0, 1);
        Checks.is("1 is not faint by 1", x.page(0, 2), 0);
        x.print(0, 1);
        Checks.is("0 is faint by 1", x.page(0, 2), 1);
        x = Checks.made("letter a 1 100;letter a 1 99;letter a 1 98;like a b;faint 99;", "a;b;", "a a a");
        x.set(0, 1);
        Checks.is("of 98, 99, 100 one is faint by 99", x.page(0, 2), 1);
        Checks.is("98", x.read(0, 0), 1);
        Checks.is("99", x.read(0, 1), 0);
    }

    // Promise 20: "NONE: as none; -2: none such"

    private static void readEachPlace() {
        WornType x = Checks.made("letter a 12 1;letter b 12 9;faint 2;like a c;", "b;a;ba;bc;",
            "b a ba b b b b b b b b bc", "b a ba b b b b b b b b b");
        Checks.is("c is wanting", x.set(0, 1), -1);
        Checks.is("set", x.set(1, 1), 0);
        int[] due = {0, -1, 3, 0, 0, 0, 0, 0, 0, 0, 0, 0};
        for (int i = 0; i < due.length; i++) {
            Checks.is("the word in place " + i, x.read(0, i), due[i]);
        }
        for (int i : new int[] {-1, 12, 13, -2, Integer.MIN_VALUE, Integer.MAX_VALUE}) {
            Checks.is("none such: " + i, x.read(0, i), -2);
        }
        Checks.is("otherwise, or not at all", x.page(0, 4), 2);
        Checks.missing("none such on no page", () -> x.read(1, 99));
    }

    private static void readByLikeAlone() {
        WornType x = Checks.made("letter a 2 1;letter b 3 1;letter c 2 1;faint 9;like b b;like c a;", "abc;aba;ab,cb;",
            "abc ab cb");
        x.set(0, 1);
        Checks.is("all are faint", x.page(0, 2), 7);
        Checks.is("a without like and b like b stay, c is a", x.read(0, 0), 1);
        Checks.is("as it is", x.read(0, 1), 2);
        Checks.is("as another one of its group", x.read(0, 2), 2);
        Checks.is("two otherwise", x.page(0, 4), 2);
    }

    // "in the order in which they were taken (by the HABIT), where it is in the TEXT, from its beginning on"

    private static void readWhereEachPieceStands() {
        for (int habit = 0; habit <= 1; habit++) {
            WornType x = Checks.made("letter a 1 9;letter a 1 2;letter a 1 5;letter a 1 2;letter b 1 9;faint 5;like a c;",
                "aab,cab,acb,ccb;a,c;aa,ac,ca,cc;", "aab aa", "a aa a");
            x.habit(habit);
            Checks.is("set", x.set(0, 1), 0);
            Checks.is("2, 2 ahead or 9, 5 ahead, by " + habit, x.read(0, 0), habit == 0 ? 3 : 0);
            Checks.is("5, 9 behind or 2, 2 behind, by " + habit, x.read(0, 1), habit == 0 ? 6 : 9);
            x.apart(0);
            Checks.is("set", x.set(1, 1), 0);
            Checks.is("the first by " + habit, x.read(0, 0), habit == 0 ? 5 : 4);
            Checks.is("two by " + habit, x.read(0, 1), habit == 0 ? 8 : 7);
            Checks.is("the last by " + habit, x.read(0, 2), habit == 0 ? 4 : 5);
        }
    }

    private static void readOfTheHabitThatSet() {
        WornType x = Checks.made("letter a 1 9;letter a 1 2;letter a 1 8;letter a 1 3;faint 5;like a c;", "a,c;", "a a");
        x.set(0, 1);
        x.habit(1);
        x.set(0, 1);
        Checks.is("by 0: 2, 3", 10 * x.read(0, 0) + x.read(0, 1), 11);
        Checks.is("by 1: 9, 8", 10 * x.read(1, 0) + x.read(1, 1), 0);
        x.print(1, 4);
        Checks.is("5, 4: only the second is faint", 10 * x.read(1, 0) + x.read(1, 1), 1);
        x.print(1, 1);
        Checks.is("4, 3: both are", 10 * x.read(1, 0) + x.read(1, 1), 11);
        x.apart(0);
        Checks.is("page 1 stays", x.page(1, 4), 2);
    }
}

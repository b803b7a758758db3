/** What the document bounds of what is WANTED by WEEKS (its section 3, promises 24 to 31). */
final class WeekEdges {
    private WeekEdges() {
    }

    static void run() {
        tenAreWanted();
        leastAndGreatestOfAWant();
        weeksFromZeroTo99();
        forgetAllOrNone();
        nothingWanted();
        nothingCanBePrinted();
        allTenCanBePrinted();
        oneOfTenCanBePrinted();
        printedByOneCopy();
        oneAfterTheOther();
        eachPieceIsTakenOnce();
        mostOfAlikeTheLeastBits();
        greedyTakesEachThatCanBe();
        greedyByTheHabit();
        weeksFromTheCaseAsItIs();
        boundOfNothing();
        boundByOnePrint();
        boundIsCut();
        boundOfMostWorthForEachPrintFirst();
        boundIsTheLeastOfTheLetters();
        boundByItsOwnLetter();
        boundOfAllWorth();
        saidBehindWeeksAhead();
        saidByWhatIsLeftOfEach();
        lostOfNoneAndOfAll();
        endsFromZeroTo100();
        endsOfWhatWasNeverThere();
    }

    // "WANTED, 10 at most"; promise 24: "how many there are; -1: there are 10"

    private static void tenAreWanted() {
        WornType x = Checks.made("letter a 1 9;", "a;", "a");
        for (int n = 1; n <= 10; n++) {
            Checks.is("told 4", x.told(4), n - 1);
            Checks.is("want " + n, x.want(0, 1, 10 - n, 1), n);
        }
        Checks.is("an 11th", x.want(0, 1, 0, 999), -1);
        Checks.is("once more", x.want(0, 1, 0, 999), -1);
        Checks.missing("an 11th of no text", () -> x.want(1, 1, 0, 1));
        Checks.wrong("an 11th of no copies", () -> x.want(0, 0, 0, 1));
        Checks.wrong("an 11th in no week", () -> x.want(0, 1, 100, 1));
        Checks.wrong("an 11th of no worth", () -> x.want(0, 1, 0, 0));
        Checks.is("there are ten", x.told(4), 10);
        Checks.is("none of them is worth 999", x.greedy(0), 9);
        Checks.is("the one of the last week is not printed", x.greedy(1), 1022);
    }

    // "copies (1 to 400), WEEK (0 to 99), worth (1 to 999)"

    private static void leastAndGreatestOfAWant() {
        WornType x = Checks.made("letter a 1 400;letter b 1 1;", "a;b;", "a", "b");
        Checks.is("the greatest", x.want(0, 400, 99, 999), 1);
        Checks.is("the least", x.want(1, 1, 0, 1), 2);
        Checks.is("both can be printed", x.greedy(1), 3);
        Checks.is("their worth", x.greedy(0), 1000);
        int[][] wrong = {{0, 0, 0, 1}, {0, 401, 0, 1}, {0, 1, -1, 1}, {0, 1, 100, 1}, {0, 1, 0, 0}, {0, 1, 0, 1000}};
        for (int[] row : wrong) {
            Checks.wrong("want " + java.util.Arrays.toString(row), () -> x.want(row[0], row[1], row[2], row[3]));
            Checks.is("there are two", x.told(4), 2);
        }
    }

    // "In the order of WEEKS (alike: as told)"

    private static void weeksFromZeroTo99() {
        WornType x = Checks.made("letter a 1 9;", "a;", "a");
        x.want(0, 9, 99, 5);
        x.want(0, 9, 98, 1);
        Checks.is("98 ahead of 99", x.greedy(1), 2);
        x.want(0, 9, 1, 1);
        Checks.is("1 ahead of 98", x.greedy(1), 4);
        x.want(0, 9, 0, 1);
        Checks.is("0 ahead of 1", x.greedy(1), 8);
        x.want(0, 9, 0, 3);
        Checks.is("of alike the one told first", x.greedy(1), 8);
        Checks.is("most is free to leave it", x.most(1), 1);
        x.forget();
        x.want(0, 5, 4, 1);
        x.want(0, 3, 4, 1);
        x.want(0, 2, 4, 1);
        x.want(0, 1, 3, 1);
        Checks.is("1, 5, 3 are 9", x.greedy(1), 11);
    }

    // Promise 25: "All WANTED go: how many."

    private static void forgetAllOrNone() {
        WornType x = Checks.made("letter a 1 9;", "a;", "a");
        Checks.is("none", x.forget(), 0);
        for (int n = 1; n <= 10; n++) {
            x.want(0, 1, 0, 1);
        }
        Checks.is("ten", x.forget(), 10);
        Checks.is("none are left", x.told(4), 0);
        Checks.is("none again", x.forget(), 0);
        Checks.is("nothing can be greedy", x.greedy(1), 0);
        Checks.is("the first again", x.want(0, 9, 0, 7), 1);
        Checks.is("it is bit 0", x.most(1), 1);
    }

    private static void nothingWanted() {
        WornType x = Checks.made("letter a 1 9;", "a;", "a");
        Checks.is("most worth", x.most(0), 0);
        Checks.is("most bits", x.most(1), 0);
        Checks.is("the one set of none", x.most(2), 1);
        Checks.is("greedy worth", x.greedy(0), 0);
        Checks.is("greedy bits", x.greedy(1), 0);
        Checks.is("bound", x.bound(), 0);
        Checks.is("said", x.said(0, 100), 9);
        Checks.is("ends", x.ends(0), -1);
    }

    private static void nothingCanBePrinted() {
        WornType x = Checks.made("letter a 1 9;", "a;b;", "a", "b", "a a");
        x.want(0, 10, 0, 5);
        x.want(1, 1, 0, 5);
        x.want(2, 1, 0, 5);
        Checks.is("most worth", x.most(0), 0);
        Checks.is("most bits", x.most(1), 0);
        Checks.is("the one set of none", x.most(2), 1);
        Checks.is("greedy", x.greedy(0) + x.greedy(1), 0);
    }

    private static void allTenCanBePrinted() {
        WornType x = Checks.made("letter a 1 10;", "a;", "a");
        for (int i = 0; i < 10; i++) {
            x.want(0, 1, 99 - 11 * i, 999);
        }
        Checks.is("most worth", x.most(0), 9990);
        Checks.is("most bits", x.most(1), 1023);
        Checks.is("all sets", x.most(2), 1024);
        Checks.is("greedy worth", x.greedy(0), 9990);
        Checks.is("greedy bits", x.greedy(1), 1023);
    }

    private static void oneOfTenCanBePrinted() {
        WornType x = Checks.made("letter a 1 1;", "a;", "a");
        for (int i = 0; i < 10; i++) {
            x.want(0, 1, 50 - i, i == 3 || i == 6 ? 9 : 4);
        }
        Checks.is("most worth", x.most(0), 9);
        Checks.is("of alike the least bits", x.most(1), 8);
        Checks.is("none and each alone", x.most(2), 11);
        Checks.is("greedy takes the first week", x.greedy(1), 512);
        Checks.is("its worth", x.greedy(0), 4);
    }

    private static void printedByOneCopy() {
        WornType x = Checks.made("letter a 1 9;", "a;", "a");
        x.want(0, 4, 0, 1);
        x.want(0, 5, 0, 1);
        Checks.is("9 of 9", x.greedy(1), 3);
        Checks.is("four sets", x.most(2), 4);
        x.forget();
        x.want(0, 4, 0, 1);
        x.want(0, 6, 0, 1);
        Checks.is("10 of 9", x.greedy(1), 1);
        Checks.is("three sets", x.most(2), 3);
    }

    // "one after the other: SET (by the HABIT), printed, TAKEN APART"

    private static void oneAfterTheOther() {
        WornType x = Checks.made("letter a 5 2;", "aa;", "aa");
        for (int week = 0; week < 6; week++) {
            x.want(0, 1, week, 1);
        }
        Checks.is("by 0 four of two pieces each, for no page is asked", x.greedy(1), 15);
        x.habit(1);
        Checks.is("by 1 five", x.greedy(1), 31);
        x.set(0, 1);
        x.set(0, 1);
        Checks.is("one is left in the case", x.greedy(1), 0);
        x.apart(0);
        Checks.is("three of them: three times", x.greedy(1), 7);
    }

    private static void eachPieceIsTakenOnce() {
        for (char c = 'a'; c <= 'z'; c++) {
            String word = String.valueOf(c).repeat(3);
            for (int habit = 0; habit <= 1; habit++) {
                WornType x = Checks.made("letter " + c + " 3 100;", word + ";", word);
                x.habit(habit);
                x.want(0, 30, 0, 1);
                Checks.is("three of " + word + " are worn alike", x.said(0, 1), 70);
                x.want(0, 30, 1, 1);
                x.want(0, 30, 2, 1);
                Checks.is("three times", x.said(0, 100), 10);
                x.want(0, 11, 3, 1);
                Checks.is("no fourth time", x.greedy(1), 7);
            }
        }
    }

    // "MOST worth: of all sets in which all can be printed so; of these the least (bits)"

    private static void mostOfAlikeTheLeastBits() {
        WornType x = Checks.made("letter a 1 6;", "a;", "a");
        x.want(0, 2, 9, 2);
        x.want(0, 2, 1, 2);
        x.want(0, 2, 5, 2);
        x.want(0, 4, 0, 4);
        x.want(0, 6, 0, 6);
        Checks.is("6", x.most(0), 6);
        Checks.is("the first three ahead of any with the fourth", x.most(1), 7);
        Checks.is("sets", x.most(2), 1 + 3 + 3 + 1 + 1 + 3 + 1);
        Checks.is("greedy takes the fourth and another", x.greedy(1), 10);
        x.want(0, 1, 0, 7);
        Checks.is("the last with two of the first", x.most(0), 11);
        Checks.is("their bits", x.most(1), 32 + 1 + 2);
    }

    private static void greedyTakesEachThatCanBe() {
        WornType x = Checks.made("letter a 1 9;letter b 1 3;", "a;b;ab;", "a", "b", "ab");
        x.want(2, 4, 0, 9);
        x.want(0, 9, 1, 1);
        x.want(2, 1, 2, 9);
        x.want(1, 3, 3, 2);
        Checks.is("ab can't be, a can, ab then not, b can", x.greedy(1), 10);
        Checks.is("their worth", x.greedy(0), 3);
        Checks.is("what can't be wears nothing", x.said(2, 1), 3);
    }

    private static void greedyByTheHabit() {
        WornType x = Checks.made("letter a 1 5;letter a 1 3;", "a;aa;", "a", "aa");
        x.want(0, 2, 0, 1);
        x.want(1, 3, 1, 5);
        x.want(0, 5, 2, 7);
        Checks.is("by 0 the least wears", x.greedy(1), 5);
        x.habit(1);
        Checks.is("by 1 the most wears", x.greedy(1), 3);
        Checks.is("most by 1", x.most(0), 7);
        Checks.is("alone", x.most(1), 4);
        x.habit(0);
        Checks.is("most by 0", x.most(0), 8);
    }

    private static void weeksFromTheCaseAsItIs() {
        WornType x = Checks.made("letter a 2 9;", "a;aa;", "a", "aa");
        x.want(1, 1, 0, 5);
        x.want(0, 9, 0, 2);
        Checks.is("both pieces", x.most(2), 3);
        x.set(0, 1);
        Checks.is("one is on a page", x.most(2), 2);
        Checks.is("greedy", x.greedy(1), 2);
        x.print(0, 9);
        x.apart(0);
        Checks.is("one is worn out", x.greedy(1), 2);
        Checks.is("sets", x.most(2), 2);
    }

    // "BOUND: for each letter the most worth for which all prints LEFT of its PIECES in the CASE would do"

    private static void boundOfNothing() {
        WornType x = Checks.made("", "a;", "a");
        Checks.is("nothing wanted", x.bound(), 0);
        x.want(0, 1, 0, 999);
        Checks.is("no prints", x.bound(), 0);
        Checks.kase(x, "letter a 1 1;");
        Checks.is("one print", x.bound(), 999);
        x.set(0, 1);
        Checks.is("none in the case", x.bound(), 0);
        x.print(0, 1);
        x.apart(0);
        Checks.is("none left", x.bound(), 0);
    }

    private static void boundByOnePrint() {
        WornType x = Checks.made("letter a 2 10;letter a 1 1;", "a;aaa;", "a", "aaa");
        x.want(1, 7, 0, 42);
        Checks.is("21 of 21", x.bound(), 42);
        x.want(0, 1, 0, 3);
        Checks.is("22 of 21: 3 ahead, and 20 of 21", x.bound(), 3 + 40);
        x.forget();
        x.want(1, 8, 0, 48);
        Checks.is("21 of 24", x.bound(), 42);
        Checks.is("though it can't be", x.most(0), 0);
    }

    private static void boundIsCut() {
        WornType x = Checks.made("letter a 1 399;", "a;", "a");
        x.want(0, 400, 0, 999);
        Checks.is("999 by 399 of 400 is 996 and a half", x.bound(), 996);
        x.forget();
        x.want(0, 400, 0, 1);
        Checks.is("399 of 400 of one", x.bound(), 0);
        x.forget();
        x.want(0, 399, 0, 1);
        Checks.is("all of one", x.bound(), 1);
        Checks.kase(x, "letter a 1 7;");
        x.forget();
        x.want(0, 3, 0, 9);
        x.want(0, 5, 0, 8);
        Checks.is("9 and 8 by 4 of 5", x.bound(), 15);
        x.want(0, 5, 0, 8);
        Checks.is("nothing for the third", x.bound(), 15);
    }

    // "those of most worth for each print of it first; those that need none of it all"

    private static void boundOfMostWorthForEachPrintFirst() {
        WornType x = Checks.made("letter a 1 3;", "a;aa;b;", "a", "aa", "b");
        x.want(0, 400, 0, 133);
        x.want(0, 3, 9, 1);
        Checks.is("a third is more than 133 of 400", x.bound(), 1);
        x.forget();
        x.want(0, 3, 9, 1);
        x.want(0, 400, 0, 133);
        Checks.is("whichever is told first", x.bound(), 1);
        x.forget();
        x.want(1, 1, 0, 10);
        x.want(0, 1, 0, 6);
        Checks.is("6 for one ahead of 10 for two", x.bound(), 16);
        x.want(0, 1, 0, 4);
        Checks.is("4 for one behind 5 for one", x.bound(), 16);
        Checks.kase(x, "letter a 1 2;");
        Checks.is("6 and half of 10", x.bound(), 11);
        Checks.kase(x, "letter b 1 1;");
        x.forget();
        x.want(0, 1, 0, 5);
        x.want(2, 1, 0, 8);
        Checks.is("by a only what needs none of it", x.bound(), 8);
    }

    private static void boundIsTheLeastOfTheLetters() {
        WornType x = Checks.made("letter a 1 5;letter b 1 4;letter z 1 3;", "abz;ab;", "abz");
        x.want(0, 6, 0, 60);
        Checks.is("by z", x.bound(), 30);
        Checks.kase(x, "letter a 1 2;letter b 1 4;letter z 1 3;");
        Checks.is("by a", x.bound(), 20);
        Checks.kase(x, "letter a 1 2;letter b 1 1;letter z 1 3;");
        Checks.is("by b", x.bound(), 10);
    }

    /** Twelve pieces of each stand in a row with those of the next letter. */
    private static void boundByItsOwnLetter() {
        WornType x = Checks.made("letter a 12 400;letter b 12 1;letter c 12 400;", "b;", "b");
        x.want(0, 24, 0, 48);
        Checks.is("12 of 24", x.bound(), 24);
        x.forget();
        x.want(0, 12, 0, 48);
        Checks.is("12 of 12", x.bound(), 48);
    }

    private static void boundOfAllWorth() {
        WornType x = Checks.made("letter a 12 400;", "aaaaaaaaa;a;", "aaaaaaaaa ".repeat(12), "a");
        for (int i = 0; i < 10; i++) {
            x.want(1, 400, 0, 999);
        }
        Checks.is("4,000 of 4,800", x.bound(), 9990);
        x.forget();
        for (int i = 0; i < 10; i++) {
            x.want(0, 400, 0, 999);
        }
        Checks.is("4,800 of 43,200 for each", x.bound(), 111);
        Checks.is("none can be", x.most(0), 0);
    }

    // "SAID: what a WORD alone CAN be, behind all of GREEDY of WEEKS ahead of one"

    private static void saidBehindWeeksAhead() {
        WornType x = Checks.made("letter a 1 400;", "a;aa;", "a");
        x.want(0, 100, 0, 1);
        x.want(0, 1, 1, 1);
        x.want(0, 30, 98, 1);
        x.want(0, 7, 99, 1);
        int[][] due = {{0, 400}, {1, 300}, {2, 299}, {98, 299}, {99, 269}, {100, 262}};
        for (int[] row : due) {
            Checks.is("said in week " + row[0], x.said(0, row[0]), row[1]);
            Checks.is("not once", x.said(1, row[0]), 0);
        }
        x.set(0, 1);
        Checks.is("from the case", x.said(0, 0), 0);
    }

    private static void saidByWhatIsLeftOfEach() {
        WornType x = Checks.made("letter a 3 10;", "a;aa;aaa;", "a");
        x.want(0, 4, 0, 1);
        x.want(0, 6, 1, 1);
        int[][] due = {{10, 10, 10}, {10, 10, 6}, {10, 10, 0}};
        for (int week = 0; week < due.length; week++) {
            for (int word = 0; word < 3; word++) {
                Checks.is("word " + word + " in week " + week, x.said(word, week), due[week][word]);
            }
        }
        Checks.is("lost", x.lost(2), 1);
        Checks.is("three end", x.ends(2), 2);
        Checks.is("two do not", x.ends(1), -1);
    }

    // "LOST: it CAN not"; promise 30: "How many WORDS are LOST in a WEEK."

    private static void lostOfNoneAndOfAll() {
        StringBuilder words = new StringBuilder();
        for (int i = 0; i < 60; i++) {
            words.append((char) ('a' + i / 20)).append((char) ('d' + i % 20)).append(i % 5 == 4 ? ';' : ',');
        }
        Checks.is("of no words none", new WornType().lost(100), 0);
        WornType x = Checks.made("", words.toString(), "ad");
        Checks.is("without pieces all", x.lost(0), 60);
        StringBuilder all = new StringBuilder();
        for (char c = 'a'; c < 'x'; c++) {
            all.append("letter ").append(c).append(" 1 1;");
        }
        Checks.kase(x, all.toString());
        Checks.is("with a piece of each none", x.lost(0), 0);
        x.want(0, 1, 0, 1);
        Checks.is("none in week 0", x.lost(0), 0);
        Checks.is("those with a or with d in week 1", x.lost(1), 22);
        Checks.is("and up to the end", x.lost(100), 22);
        Checks.tongue(x, "z;");
        Checks.is("by a new tongue of one word it alone", x.lost(100), 1);
        Checks.tongue(x, "");
        Checks.is("by an empty one none", x.lost(100), 0);
    }

    // "ENDS: the first WEEK (0 to 100) in which it is LOST"; promise 31: NONE

    private static void endsFromZeroTo100() {
        WornType x = Checks.made("letter a 1 9;letter b 1 9;letter c 1 9;letter d 1 1;", "a;b;c;d;e;ab;", "a", "b", "c");
        x.want(1, 9, 99, 1);
        x.want(0, 5, 0, 1);
        x.want(0, 4, 0, 1);
        x.want(2, 5, 41, 1);
        x.want(2, 4, 41, 1);
        int[] due = {1, 100, 42, -1, 0, 1};
        for (int word = 0; word < due.length; word++) {
            Checks.is("word " + word + " ends", x.ends(word), due[word]);
            for (int week = 0; week <= 100; week++) {
                boolean lost = due[word] >= 0 && week >= due[word];
                Checks.is("word " + word + " in week " + week, x.said(word, week) == 0 ? 1 : 0, lost ? 1 : 0);
            }
        }
    }

    private static void endsOfWhatWasNeverThere() {
        WornType x = Checks.made("letter a 1 1;", "a;aa;", "a");
        Checks.is("never lost", x.ends(0), -1);
        WornType y = Checks.made("letter a 1 8;", "a;", "a");
        y.want(0, 4, 0, 1);
        Checks.is("printed once, not twice", y.ends(0), -1);
        y.want(0, 4, 0, 1);
        Checks.is("printed twice", y.ends(0), 1);
        Checks.is("lost from the first", x.ends(1), 0);
        x.set(0, 1);
        Checks.is("its piece is on a page", x.ends(0), 0);
        x.print(0, 1);
        x.apart(0);
        Checks.is("it is worn out", x.ends(0), 0);
    }
}

/** What the document bounds of WORDINGS (its section 3, promises 21 to 23). */
final class WordingEdges {
    private static final String FIVES = "a,b,c,d,e;";
    private static final String FOURS = "f,g,h,i;";
    private static final String THREES = "j,k,l;";
    private static final String TWOS = "m,n;";
    private static final String TONGUE = FIVES + FOURS + THREES + TWOS + "o;";
    private static final String CASE = "letter a 12 400;letter f 12 400;letter j 12 400;letter m 12 400;letter o 12 400;";

    private WordingEdges() {
    }

    static void run() {
        onlyItselfWithoutOthers();
        oneOfItsGroupInItsPlace();
        onePlaceHasNothingToFollow();
        noneFollowedByOneThatMayNot();
        noWordingAtAll();
        leastOfAlikeTheFirst();
        leastPriceOfNothing();
        leastOfTheDearest();
        leastEachPlace();
        leastBehindACheaperOne();
        fittingByOneCopy();
        fittingByOnePiece();
        fittingByEachLetter();
        fittingOfAlikeTheFirst();
        fittingFromTheCase();
        fittingEachPlace();
        rowsUpTo4096();
        wordingsUpToAMillion();
    }

    private static String repeated(String word, int n) {
        return (word + " ").repeat(n).trim();
    }

    private static void onlyItselfWithoutOthers() {
        WornType x = Checks.made("letter a 2 3;price a 7;", "a;b;", "a a", "b");
        Checks.is("one wording", x.wordings(0), 1);
        Checks.is("its price", x.least(0, 0, 0), 14);
        Checks.is("its word", x.least(0, 1, 1), 0);
        Checks.is("fitting", x.fitting(0, 3, 0, 0), 14);
        Checks.is("b without pieces has a wording", x.least(1, 0, 0), 1);
        Checks.is("but none that fits", x.fitting(1, 1, 0, 0), -1);
    }

    // "each WORD, or one of its GROUP, in its place"

    private static void oneOfItsGroupInItsPlace() {
        WornType x = Checks.made("price a 5;price b 4;price c 3;price d 2;price f 0;", FIVES + "f;", "a f", "e a", "c");
        Checks.is("e is the cheapest of five", x.least(0, 0, 1), 4);
        Checks.is("f stays in its place", x.least(0, 1, 1), 5);
        Checks.is("the price", x.least(0, 0, 0), 1);
        Checks.is("from the last as from the first", x.least(1, 0, 0), 2);
        Checks.is("five by five", x.wordings(1), 25);
        Checks.is("five", x.wordings(2), 5);
    }

    private static void onePlaceHasNothingToFollow() {
        StringBuilder all = new StringBuilder();
        for (int pair = 0; pair < 16; pair++) {
            all.append("follow ").append(pair / 4).append(' ').append(pair % 4).append(';');
        }
        WornType x = Checks.made("letter a 1 5;letter b 1 6;" + all, "a,b/1,c/2,d/3;", "c", "a a");
        Checks.is("all four", x.wordings(0), 4);
        Checks.is("the first of alike", x.least(0, 0, 1), 0);
        Checks.is("fitting", x.fitting(0, 6, 0, 1), 1);
        Checks.is("of two places none", x.wordings(1), 0);
    }

    // "none followed by one that may not (follow)"

    private static void noneFollowedByOneThatMayNot() {
        WornType x = Checks.made("letter a 3 9;letter b 3 9;price a 0;follow 0 0;", "a,b/1;",
            "a a", "a a a", "b a", "b b b b");
        Checks.is("two: not a a", x.wordings(0), 3);
        Checks.is("the first: a b", 10 * x.least(0, 0, 1) + x.least(0, 1, 1), 1);
        Checks.is("three: 5 of 8", x.wordings(1), 5);
        Checks.is("a b a", x.least(1, 0, 0), 1);
        Checks.is("a b a fits", x.fitting(1, 9, 0, 0), 1);
        Checks.is("its word in the midst", x.fitting(1, 9, 1, 1), 1);
        Checks.is("the told ones may be others", x.least(2, 0, 0), 1);
        Checks.is("four: 8 of 16", x.wordings(3), 8);
        Checks.is("the last pair counts", x.least(3, 0, 0), 2);
    }

    // "NONE: there is no WORDING, or none such."

    private static void noWordingAtAll() {
        WornType x = Checks.made("letter a 9 9;follow 2 2;", "a/2,b/2;c;", "a a", "a c a", "c a a");
        for (int i = -1; i <= 2; i++) {
            Checks.is("no price", x.least(0, i, 0), -1);
            Checks.is("no word", x.least(0, i, 1), -1);
            Checks.is("none fits", x.fitting(0, 1, i, 0), -1);
            Checks.is("no word that fits", x.fitting(0, 1, i, 1), -1);
        }
        Checks.is("no wordings", x.wordings(0), 0);
        Checks.is("with c between", x.wordings(1), 4);
        Checks.is("at the end", x.wordings(2), 0);
        Checks.is("at the end no price", x.least(2, 0, 0), -1);
        Checks.is("at the end no word", x.least(2, 0, 1), -1);
        Checks.is("it can be set as told all the same", x.can(0), 9);
    }

    // "of these the first (WORD by WORD, by number)"

    private static void leastOfAlikeTheFirst() {
        WornType x = Checks.made("follow 1 0;", "b/1,a;c,d/1;", "a c", "c a", "b d");
        Checks.is("b d ahead of a c", 10 * x.least(0, 0, 1) + x.least(0, 1, 1), 3);
        Checks.is("c b", 10 * x.least(1, 0, 1) + x.least(1, 1, 1), 20);
        Checks.is("from whichever it is told", 10 * x.least(2, 0, 1) + x.least(2, 1, 1), 3);
        WornType y = Checks.made("price x 3;price y 2;", "x,yz;y,xz;", "x y", "yz xz");
        Checks.is("x y is 5, the least", y.least(0, 0, 0), 5);
        Checks.is("x ahead of yz", 10 * y.least(1, 0, 1) + y.least(1, 1, 1), 2);
    }

    private static void leastPriceOfNothing() {
        WornType x = Checks.made("price a 0;price b 0;", "b,a,ab;", "ab ab");
        Checks.is("a price of 0 is no NONE", x.least(0, 0, 0), 0);
        Checks.is("the first", x.least(0, 0, 1) + x.least(0, 1, 1), 0);
        Checks.is("none fits without pieces", x.fitting(0, 1, 0, 0), -1);
        WornType y = Checks.made("price a 0;letter a 2 3;", "a,b;", "b b");
        Checks.is("fitting for nothing", y.fitting(0, 3, 0, 0), 0);
    }

    private static void leastOfTheDearest() {
        WornType x = Checks.made("price z 99;letter z 12 400;", "zzzzzzzzz;z;", repeated("zzzzzzzzz", 12),
            repeated("z", 12));
        Checks.is("108 letters of 99", x.least(0, 0, 0), 10692);
        Checks.is("12 letters of 99", x.fitting(1, 400, 0, 0), 1188);
        Checks.is("108 of 12 do not fit", x.fitting(0, 1, 0, 0), -1);
    }

    private static void leastEachPlace() {
        WornType x = Checks.made("price b 0;", "a,b;c;", repeated("a", 11) + " c", "c");
        for (int i = 0; i < 11; i++) {
            Checks.is("the word in place " + i, x.least(0, i, 1), 1);
        }
        Checks.is("the last", x.least(0, 11, 1), 2);
        for (int i : new int[] {-1, 12, 13, Integer.MIN_VALUE, Integer.MAX_VALUE}) {
            Checks.is("none such: " + i, x.least(0, i, 1), -1);
            Checks.is("the price, whatever i: " + i, x.least(0, i, 0), 1);
        }
        Checks.is("of one word the second", x.least(1, 1, 1), -1);
    }

    /** The least of all may begin with a WORD that is not the least in its place. */
    private static void leastBehindACheaperOne() {
        WornType x = Checks.made("price b 2;price c 9;price d 2;follow 1 0;", "a/1,b;d,c/1;", "a d", "d a");
        Checks.is("a d may not, a c is 10: b d", x.least(0, 0, 0), 4);
        Checks.is("b", x.least(0, 0, 1), 1);
        Checks.is("d", x.least(0, 1, 1), 2);
        Checks.is("d a", x.least(1, 0, 0), 3);
    }

    // "FITTING for so many copies: of those that can be SET then"

    private static void fittingByOneCopy() {
        WornType x = Checks.made("letter a 1 7;letter b 1 400;letter c 1 1;price a 1;price b 2;price c 0;", "a,b,c;", "a");
        int[][] due = {{1, 2}, {2, 0}, {7, 0}, {8, 1}, {400, 1}};
        for (int[] row : due) {
            Checks.is("fitting for " + row[0], x.fitting(0, row[0], 0, 1), row[1]);
        }
        WornType y = Checks.made("letter a 1 399;", "a;", "a");
        Checks.is("399 of 399", y.fitting(0, 399, 0, 0), 1);
        Checks.is("400 of 399", y.fitting(0, 400, 0, 0), -1);
        Checks.is("no word of it", y.fitting(0, 400, 0, 1), -1);
    }

    private static void fittingByOnePiece() {
        WornType x = Checks.made("letter a 3 9;letter b 1 9;price b 9;", "aa,b;a;", "aa a", "aa aa", "b b", "aa a a");
        Checks.is("three a of three", x.fitting(0, 9, 0, 0), 3);
        Checks.is("four a of three: one b", x.fitting(1, 9, 0, 0), 11);
        Checks.is("aa b ahead of b aa", 10 * x.fitting(1, 9, 0, 1) + x.fitting(1, 9, 1, 1), 1);
        Checks.is("from b b too", x.fitting(2, 9, 0, 0), 11);
        Checks.is("two a behind b", x.fitting(3, 9, 0, 0), 11);
        Checks.is("b", x.fitting(3, 9, 0, 1), 1);
        WornType y = Checks.made("letter a 12 9;letter b 12 9;price b 2;", "a,b;", repeated("a", 12));
        Checks.is("12 of 12", y.fitting(0, 9, 0, 0), 12);
        WornType z = Checks.made("letter a 11 9;letter b 12 9;price b 2;", "a,b;", repeated("a", 12));
        Checks.is("12 of 11", z.fitting(0, 9, 0, 0), 13);
        Checks.is("the last is the other", z.fitting(0, 9, 11, 1), 1);
        Checks.is("the one ahead is not", z.fitting(0, 9, 10, 1), 0);
    }

    private static void fittingByEachLetter() {
        for (int missing = 0; missing < 3; missing++) {
            StringBuilder text = new StringBuilder("price z 99;letter z 1 9;");
            for (int i = 0; i < 3; i++) {
                text.append("letter ").append("abc".charAt(i)).append(" 1 ").append(i == missing ? 8 : 9).append(';');
            }
            WornType x = Checks.made(text.toString(), "abc,z;", "abc");
            Checks.is("abc for 8", x.fitting(0, 8, 0, 0), 3);
            Checks.is("z for 9, by letter " + missing, x.fitting(0, 9, 0, 0), 99);
        }
    }

    private static void fittingOfAlikeTheFirst() {
        WornType x = Checks.made("letter a 1 9;letter b 1 9;letter c 1 3;", "c,b,a;", "a a", "c c");
        for (int text = 0; text < 2; text++) {
            Checks.is("c b", 10 * x.fitting(text, 3, 0, 1) + x.fitting(text, 3, 1, 1), 1);
            Checks.is("b a", 10 * x.fitting(text, 4, 0, 1) + x.fitting(text, 4, 1, 1), 12);
        }
    }

    private static void fittingFromTheCase() {
        WornType x = Checks.made("letter a 1 9;letter b 1 9;price b 3;", "a,b;", "a");
        Checks.is("a", x.fitting(0, 9, 0, 0), 1);
        x.set(0, 1);
        Checks.is("a is on a page: b", x.fitting(0, 9, 0, 0), 3);
        x.print(0, 1);
        x.apart(0);
        Checks.is("a has 8: b for 9", x.fitting(0, 9, 0, 0), 3);
        Checks.is("a for 8", x.fitting(0, 8, 0, 0), 1);
        Checks.is("fitting takes nothing", x.letter(0, 1) + x.letter(1, 1), 2);
    }

    private static void fittingEachPlace() {
        WornType x = Checks.made("letter a 1 9;letter b 12 9;price b 3;", "a,b;", repeated("a", 12));
        Checks.is("the price", x.fitting(0, 9, 0, 0), 34);
        for (int i = 0; i < 12; i++) {
            Checks.is("the word in place " + i, x.fitting(0, 9, i, 1), i == 0 ? 0 : 1);
        }
        for (int i : new int[] {-1, 12, 13, Integer.MIN_VALUE, Integer.MAX_VALUE}) {
            Checks.is("none such: " + i, x.fitting(0, 9, i, 1), -1);
            Checks.is("the price, whatever i: " + i, x.fitting(0, 9, i, 0), 34);
        }
    }

    // Promise 22: "-2: there are more than 4,096 rows of WORDS (also those that may not follow)."

    private static void rowsUpTo4096() {
        WornType x = Checks.made(CASE, TONGUE, repeated("m", 12), repeated("f", 6) + " o o o", "f f m j j j a",
            "f f f f f m a", repeated("a", 12), "a f j m");
        int[] due = {12, 9, -2, -2, -2, 4};
        for (int text = 0; text < due.length; text++) {
            Checks.is("text " + text, x.fitting(text, 400, 0, 0), due[text]);
            Checks.is("least is asked of all, text " + text, x.least(text, 0, 0) > 0 ? 1 : 0, 1);
        }
        for (int i : new int[] {-1, 0, 11, 12, Integer.MAX_VALUE}) {
            Checks.is("its words too", x.fitting(4, 1, i, 1), -2);
        }
        WornType y = Checks.made("follow 0 0;", TONGUE, "f f m j j j a", repeated("m", 12));
        Checks.is("4,320 that may not follow", y.fitting(0, 1, 0, 0), -2);
        Checks.is("4,096 that may not follow", y.fitting(1, 1, 0, 0), -1);
        Checks.is("without a wording", y.wordings(0), 0);
    }

    // Promise 23: "1,000,000 at most"

    private static void wordingsUpToAMillion() {
        WornType x = Checks.made("", TONGUE, "f f f a a a a a a", "f j j j j a a a a a", "m j j j j j j j j j a a",
            repeated("a", 12), "o", "f f f f f f j j j j j", repeated("a", 9), repeated("f", 10));
        int[] due = {1000000, 1000000, 984150, 1000000, 1, 995328, 1000000, 1000000};
        for (int text = 0; text < due.length; text++) {
            Checks.is("wordings of text " + text, x.wordings(text), due[text]);
        }
        WornType y = Checks.made("follow 2 0;follow 3 3;", "a,b,c,d,e/1;w/2;z/3;", "w " + repeated("a", 9),
            repeated("a", 10) + " z z", "w " + repeated("a", 10));
        Checks.is("only e behind w", y.wordings(0), 390625);
        Checks.is("none of millions", y.wordings(1), 0);
        Checks.is("only e behind w, of more", y.wordings(2), 1000000);
    }
}

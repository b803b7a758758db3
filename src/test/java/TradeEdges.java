/** What the document bounds of EXCHANGED, CAST, STANDING TOGETHER and of IMAGES (promises 32 to 37). */
final class TradeEdges {
    private TradeEdges() {
    }

    static void run() {
        exchangeIsMoreThanNow();
        exchangeNeedsOneOfEach();
        exchangeGivesTheLeast();
        exchangeTakesTheMost();
        exchangeOfNeighbours();
        exchangeOfAlikeTheFirst();
        exchangeOfTheLastLetters();
        castIsMoreThanNow();
        castOfAlikeTheFirst();
        castTakesTheBestOthers();
        castBesideTwelve();
        togetherNoneAndAll();
        togetherByOneCopy();
        togetherOfAlikeTheLeast();
        togetherFromTheCase();
        imagesAreThree();
        restoreOfNone();
        restoreEach();
        imagesHoldWhatIsWanted();
        imagesGo();
        counts();
    }

    // "the two letters by which a TEXT CAN be most often then, if that is more than now"

    private static void exchangeIsMoreThanNow() {
        WornType x = Checks.made("letter a 1 4;letter b 1 9;there a 1 4;", "a;b;", "a", "b");
        Checks.is("4 for 4 is no more", x.exchange(0), -1);
        x = Checks.made("letter a 1 4;letter b 1 9;there a 1 5;", "a;b;", "a", "b");
        Checks.is("5 for 4 is", x.exchange(0), 0);
        Checks.is("b gains nothing", x.exchange(1), -1);
        x = Checks.made("letter a 1 4;letter b 1 9;there a 1 5;", "ab;", "ab");
        Checks.is("b may not go", x.exchange(0), 0);
        x = Checks.made("letter a 1 4;letter b 1 9;letter c 1 1;there a 1 400;", "ab;", "ab");
        Checks.is("of alike a for a", x.exchange(0), 0);
    }

    private static void exchangeNeedsOneOfEach() {
        WornType x = Checks.made("there a 1 9;", "a;", "a");
        Checks.is("nothing of ours", x.exchange(0), -1);
        x = Checks.made("letter b 1 9;", "a;", "a");
        Checks.is("nothing of theirs", x.exchange(0), -1);
        x = Checks.made("letter b 1 9;there a 1 9;", "a;b;", "a", "b");
        Checks.is("one of each", x.exchange(0), 100);
        x.set(1, 1);
        Checks.is("ours is on a page", x.exchange(0), -1);
        x.print(0, 9);
        x.apart(0);
        Checks.is("a worn out one goes too", x.exchange(0), 100);
    }

    // "the PIECE of a letter in the CASE with the least LEFT (of these the first)"

    private static void exchangeGivesTheLeast() {
        WornType x = Checks.made("letter a 1 9;letter a 1 3;letter a 1 8;there b 1 5;", "ab;aab;a;", "ab", "aab", "a");
        Checks.is("the 3 goes, 8 and 9 stay", x.exchange(1), 1);
        Checks.is("one stays", x.exchange(0), 1);
        WornType y = Checks.made("letter a 2 7;there b 1 9;", "ab;aab;", "ab", "aab");
        Checks.is("of two one goes", y.exchange(0), 1);
        Checks.is("two are needed", y.exchange(1), -1);
        WornType z = Checks.made("letter a 1 2;letter a 1 9;there a 1 9;", "aa;a;", "aa", "a");
        Checks.is("theirs for the 2", z.exchange(0), 0);
        z.set(1, 1);
        Checks.is("the 2 is on a page", z.exchange(0), -1);
        WornType w = Checks.made("letter a 1 9;letter a 1 2;there a 1 5;", "aa;a;", "aa", "a");
        w.habit(1);
        w.set(1, 1);
        Checks.is("the 9 is on a page: 5 for 2", w.exchange(1), 0);
    }

    // "for that of the other town with the most (likewise)"

    private static void exchangeTakesTheMost() {
        WornType x = Checks.made("letter b 1 9;there a 1 2;there a 1 400;there a 1 3;there c 1 399;", "a;c;", "a", "c");
        Checks.is("theirs of 400", x.exchange(0), 100);
        Checks.is("theirs of 399", x.exchange(1), 102);
        x = Checks.made("letter a 1 399;there a 11 1;there a 1 400;", "a;", "a");
        Checks.is("the last of twelve", x.exchange(0), 0);
        x = Checks.made("letter a 1 399;there a 12 399;", "a;", "a");
        Checks.is("none of twelve", x.exchange(0), -1);
    }

    /** Twelve pieces of each stand in a row with those of the next letter. */
    private static void exchangeOfNeighbours() {
        WornType x = Checks.made("letter b 1 5;there a 12 5;there b 12 5;there c 12 400;", "b;", "b");
        Checks.is("theirs of c is no b", x.exchange(0), -1);
        x = Checks.made("letter b 1 5;there a 12 400;there b 12 5;there c 12 5;", "b;", "b");
        Checks.is("theirs of a is no b", x.exchange(0), -1);
        x = Checks.made("letter b 1 5;there a 12 400;there b 11 5;there b 1 6;there c 12 400;", "b;", "b");
        Checks.is("theirs of b", x.exchange(0), 101);
    }

    // "of these the first (ours, then theirs)"

    private static void exchangeOfAlikeTheFirst() {
        WornType x = Checks.made("letter b 1 1;letter c 1 1;letter d 1 1;there x 1 5;there y 1 5;", "x,y;z;", "x", "y", "z");
        Checks.is("b for x", x.exchange(0), 123);
        Checks.is("b for y", x.exchange(1), 124);
        Checks.is("z is not to be had", x.exchange(2), -1);
        WornType y = Checks.made("letter a 2 4;letter b 2 3;letter c 1 1;there a 1 9;there b 1 9;", "aab;bba;",
            "aab", "bba");
        Checks.is("b for b gives 4, a for b no more", y.exchange(0), 101);
        Checks.is("3 by 9 and 3 stays 3", y.exchange(1), -1);
        WornType z = Checks.made("letter a 1 4;letter b 1 4;letter c 1 4;there d 1 5;there c 1 6;", "cd;", "cd");
        Checks.is("a for d", z.exchange(0), 3);
        WornType w = Checks.made("letter c 1 4;letter d 1 9;letter e 2 9;there d 1 5;there c 1 6;", "cc;dd;", "cc", "dd");
        Checks.is("c with d or e for it: the first", w.exchange(0), 302);
        Checks.is("d with c for it", w.exchange(1), 203);
    }

    private static void exchangeOfTheLastLetters() {
        WornType x = Checks.made("letter z 1 1;there z 1 2;", "z;", "z");
        Checks.is("z for z", x.exchange(0), 2525);
        x = Checks.made("letter a 12 400;there a 12 400;letter z 1 1;", "z;a;", "z", "a");
        Checks.is("a is no z", x.exchange(0), -1);
        Checks.is("no more than 400", x.exchange(1), -1);
    }

    // "CAST: a new PIECE with so many prints: the letter by which it CAN be most often, if more than now"

    private static void castIsMoreThanNow() {
        WornType x = Checks.made("letter a 1 4;", "a;b;z;", "a", "b", "a b", "z");
        Checks.is("4 for 4 is no more", x.cast(0, 4), -1);
        Checks.is("5 for 4 is", x.cast(0, 5), 0);
        Checks.is("1 for none is", x.cast(1, 1), 1);
        Checks.is("400 for none", x.cast(1, 400), 1);
        Checks.is("beside a", x.cast(2, 400), 1);
        Checks.is("the last letter", x.cast(3, 1), 25);
        WornType y = Checks.made("letter a 1 400;", "a;", "a");
        Checks.is("400 for 400", y.cast(0, 400), -1);
        WornType z = Checks.made("letter a 1 399;", "a;", "a");
        Checks.is("400 for 399", z.cast(0, 400), 0);
        Checks.is("399 for 399", z.cast(0, 399), -1);
    }

    private static void castOfAlikeTheFirst() {
        WornType x = Checks.made("letter a 1 4;letter b 1 4;letter c 1 9;", "abc;bc;cc;", "abc", "bc", "bc cc");
        Checks.is("two are the least: neither alone does it", x.cast(0, 400), -1);
        Checks.is("b", x.cast(1, 400), 1);
        Checks.is("two of c are wanting", x.cast(2, 400), -1);
    }

    private static void castTakesTheBestOthers() {
        WornType x = Checks.made("letter a 1 9;letter a 1 2;", "aa;aaa;", "aa", "aaa");
        Checks.is("9 and 5 for 9 and 2", x.cast(0, 5), 0);
        Checks.is("9 and 3", x.cast(0, 3), 0);
        Checks.is("9 and 2 is no more", x.cast(0, 2), -1);
        Checks.is("a third one", x.cast(1, 1), 0);
        x.set(0, 1);
        Checks.is("one is not enough with all on a page", x.cast(0, 400), -1);
        Checks.is("nothing was cast", x.letter(0, 0), 2);
    }

    private static void castBesideTwelve() {
        WornType x = Checks.made("letter a 11 9;letter a 1 3;", "aaaaaaaaa;aaa;a;", "aaaaaaaaa aaa", "aaaaaaaaa aaa a");
        Checks.is("a 13th instead of the 3", x.cast(0, 4), 0);
        Checks.is("a 13th beside twelve", x.cast(1, 1), 0);
        Checks.is("no better one", x.cast(0, 3), -1);
        Checks.is("twelve stay", x.letter(0, 0), 12);
    }

    // "STANDING TOGETHER: the most TEXTS that can be SET for so many copies at one time"

    private static void togetherNoneAndAll() {
        Checks.is("no texts", new WornType().together(400), 0);
        WornType x = Checks.made("letter a 8 400;", "a;b;", "a", "a", "a", "a", "a", "a", "a", "a");
        Checks.is("all eight, on no pages", x.together(400), 255);
        Checks.is("for one copy", x.together(1), 255);
        x = Checks.made("letter a 8 400;", "a;b;", "b", "b", "b", "b", "b", "b", "b", "b");
        Checks.is("none", x.together(1), 0);
        x = Checks.made("letter a 8 400;", "a;b;", "b", "b", "b", "b", "b", "b", "b", "a");
        Checks.is("the last alone", x.together(1), 128);
        x = Checks.made("letter a 7 400;", "a;b;", "a", "a", "a", "a", "a", "a", "a", "a");
        Checks.is("seven of eight, the least", x.together(1), 127);
    }

    private static void togetherByOneCopy() {
        WornType x = Checks.made("letter a 1 5;letter a 1 6;letter a 1 399;letter b 1 400;", "a;b;", "a", "a", "a", "b");
        int[][] due = {{1, 15}, {5, 15}, {6, 11}, {7, 9}, {399, 9}, {400, 8}};
        for (int habit = 0; habit <= 1; habit++) {
            x.habit(habit);
            for (int[] row : due) {
                Checks.is("for " + row[0] + " copies", x.together(row[0]), row[1]);
            }
        }
    }

    // "of these sets the least (bits)"

    private static void togetherOfAlikeTheLeast() {
        WornType x = Checks.made("letter a 2 9;letter b 1 9;", "aa;a;b;bb;", "aa", "a", "bb", "b", "a");
        Checks.is("a, b, a stand with none of aa or bb", x.together(9), 2 + 8 + 16);
        WornType y = Checks.made("letter a 3 9;", "aa;a;", "aa", "a", "aa", "a");
        Checks.is("aa and a", y.together(9), 3);
        WornType z = Checks.made("letter a 2 9;", "aaa;aa;a;", "aaa", "aa", "a", "a");
        Checks.is("a and a ahead of aa", z.together(9), 12);
        WornType w = Checks.made("letter a 1 9;", "aa;a;", "aa", "a", "a");
        Checks.is("the first that stands", w.together(9), 2);
    }

    private static void togetherFromTheCase() {
        WornType x = Checks.made("letter a 3 9;", "a;", "a", "a", "a");
        Checks.is("three", x.together(9), 7);
        x.set(0, 1);
        Checks.is("two, and the same text may stand again", x.together(9), 3);
        x.set(0, 1);
        x.set(0, 1);
        Checks.is("none", x.together(1), 0);
        x.print(0, 9);
        x.apart(0);
        Checks.is("a worn out one", x.together(1), 0);
        x.apart(1);
        Checks.is("another one", x.together(1), 1);
        Checks.is("nothing was taken", x.letter(0, 1), 2);
    }

    // Promise 35: "how many there are; -1: there are 3"

    private static void imagesAreThree() {
        WornType x = Checks.made("letter a 1 9;", "a;", "a");
        for (int n = 1; n <= 3; n++) {
            Checks.is("count", x.count(0), n - 1);
            x.want(0, 1, 0, n);
            Checks.is("image " + n, x.image(), n);
        }
        x.forget();
        x.habit(1);
        Checks.is("a fourth", x.image(), -1);
        Checks.is("there are three", x.count(0), 3);
        Checks.is("the latest one goes", x.restore(), 2);
        Checks.is("it is the third", x.told(4), 3);
        Checks.is("the fourth was not made", x.told(6), 0);
        Checks.is("one more may be made", x.image(), 3);
        Checks.is("and none more", x.image(), -1);
    }

    // Promise 36: "how many are left; -1: there is none"

    private static void restoreOfNone() {
        WornType x = new WornType();
        Checks.is("of a new object", x.restore(), -1);
        Checks.is("count", x.count(0), 0);
        WornType y = Seen.waiting();
        Checks.is("two", y.restore(), 1);
        Checks.is("one", y.restore(), 0);
        java.util.Map<String, String> before = Seen.of(restoredTwice());
        Checks.is("none", y.restore(), -1);
        Checks.same("all stays by it", Seen.of(y), before);
    }

    private static WornType restoredTwice() {
        WornType x = Seen.waiting();
        x.restore();
        x.restore();
        return x;
    }

    /** The latest first; each has what was when it was made. */
    private static void restoreEach() {
        WornType x = Checks.made("letter a 3 9;faint 5;like a b;", "a;b;", "a", "a a");
        x.image();
        x.set(1, 1);
        x.print(0, 5);
        x.want(0, 1, 7, 3);
        x.image();
        x.apart(0);
        x.habit(1);
        x.set(0, 1);
        x.forget();
        x.image();
        x.print(0, 9);
        x.set(0, 1);
        x.want(1, 1, 1, 1);
        x.want(1, 1, 1, 1);
        x.habit(0);
        Checks.is("the third", x.restore(), 2);
        Checks.is("its page is of one piece, of 9", x.page(0, 3), 9);
        Checks.is("its habit", x.told(6), 1);
        Checks.is("nothing wanted", x.told(4), 0);
        Checks.is("one page", x.told(3), 1);
        Checks.is("the second", x.restore(), 1);
        Checks.is("its page is of two pieces", x.page(0, 1), 2);
        Checks.is("they are read otherwise", x.page(0, 4), 2);
        Checks.is("its habit", x.told(6), 0);
        Checks.is("one wanted", x.told(4), 1);
        Checks.is("the first", x.restore(), 0);
        Checks.is("no page", x.told(3), 0);
        Checks.is("left of all", x.letter(0, 2), 27);
        Checks.is("all in the case", x.letter(0, 1), 3);
        Checks.is("nothing wanted", x.told(4), 0);
        Checks.is("none is left", x.restore(), -1);
    }

    /** Of each want its TEXT, its copies, its WEEK and its worth. */
    private static void imagesHoldWhatIsWanted() {
        for (int other = 0; other < 4; other++) {
            WornType x = Checks.made("letter a 1 10;letter b 1 10;", "a;b;", "a", "b");
            x.want(0, 6, 3, 9);
            x.want(0, 5, 4, 50);
            x.image();
            x.forget();
            x.want(other == 0 ? 1 : 0, other == 1 ? 5 : 6, other == 2 ? 5 : 3, other == 3 ? 100 : 9);
            x.want(0, 5, 4, 50);
            Checks.is("otherwise, by " + other, x.greedy(0) != 9 ? 1 : 0, 1);
            Checks.is("restored", x.restore(), 0);
            Checks.is("greedy as it was", x.greedy(0), 9);
            Checks.is("its bits", x.greedy(1), 1);
            Checks.is("most as it was", x.most(0), 50);
            Checks.is("sets", x.most(2), 3);
            Checks.is("a in week 4", x.said(0, 4), 4);
            Checks.is("a in week 3", x.said(0, 3), 10);
            Checks.is("b at the end", x.said(1, 100), 10);
        }
    }

    private static void imagesGo() {
        WornType x = Seen.busy();
        Checks.is("a case with a fault", Checks.kase(x, ";"), -9);
        Checks.is("a tongue with a fault", Checks.tongue(x, ";"), -9);
        Checks.is("a text", Checks.text(x, "a"), 3);
        Checks.is("two stay", x.count(0), 2);
        Checks.kase(x, "letter a 1 1;");
        Checks.is("by a case they go", x.count(0), 0);
        x.image();
        Checks.tongue(x, "a;");
        Checks.is("by a tongue they go", x.count(0), 0);
        for (int n = 1; n <= 3; n++) {
            Checks.is("three may be made again", x.image(), n);
        }
    }

    // Promise 37: "0 IMAGES, 1 bytes of the TAPE; NONE for others"

    private static void counts() {
        WornType x = Seen.waiting();
        Checks.is("images", x.count(0), 2);
        Checks.is("bytes", x.count(1), 20);
        for (int what : new int[] {-1, 2, 3, -2, 100, Integer.MIN_VALUE, Integer.MAX_VALUE}) {
            Checks.is("others: " + what, x.count(what), -1);
        }
    }
}

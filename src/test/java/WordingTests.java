/** Promises 21 to 23: the least wording, the fitting one, how many there are. */
final class WordingTests {
    private static final String FIVE = "a,b,c,d,e;";

    private WordingTests() {
    }

    static void run() {
        least();
        leastFirstOfAlike();
        follow();
        fitting();
        tooManyRows();
        wordings();
    }

    private static void least() {
        WornType x = Checks.made("price a 9;price b 0;", "aa,cc,bbb;c,b;", "aa c", "c");
        Checks.is("price", x.least(0, 0, 0), 0);
        Checks.is("price, whatever i", x.least(0, 77, 0), 0);
        Checks.is("the first word", x.least(0, 0, 1), 2);
        Checks.is("the second word", x.least(0, 1, 1), 4);
        Checks.is("none such", x.least(0, 2, 1), -1);
        Checks.is("none such", x.least(0, -1, 1), -1);
        Checks.missing("least(2, 0, 0)", () -> x.least(2, 0, 0));
        Checks.missing("least(-1, 0, 5)", () -> x.least(-1, 0, 5));
        Checks.wrong("least(0, 0, 2)", () -> x.least(0, 0, 2));
        Checks.wrong("least(0, 0, -1)", () -> x.least(0, 0, -1));
    }

    private static void leastFirstOfAlike() {
        WornType x = Checks.made("price b 2;follow 0 0;", "bb,a/1,aa/1;b,c/1,d;", "bb b", "b bb");
        Checks.is("of those of 2 the first", x.least(0, 0, 1) * 10 + x.least(0, 1, 1), 14);
        Checks.is("its price", x.least(0, 0, 0), 2);
        Checks.is("by the first word first", x.least(1, 0, 1) * 10 + x.least(1, 1, 1), 41);
        WornType y = Checks.made("follow 1 0;", "b/1,a;c,dd/1;", "a c");
        Checks.is("a dear one may not be needed", y.least(0, 0, 1) * 10 + y.least(0, 1, 1), 12);
    }

    private static void follow() {
        WornType x = Checks.made("follow 1 1;follow 1 0;", "a/1;b;", "a b", "b a", "a", "b a a");
        Checks.is("no wording", x.least(0, 0, 0), -1);
        Checks.is("no wording", x.least(0, 0, 1), -1);
        Checks.is("no wordings", x.wordings(0), 0);
        Checks.is("none fits", x.fitting(0, 1, 0, 0), -1);
        Checks.is("the other way", x.least(1, 0, 0), 2);
        Checks.is("one wording", x.wordings(1), 1);
        Checks.is("alone", x.wordings(2), 1);
        Checks.is("no wording", x.least(3, 0, 0), -1);
        Checks.kase(x, "");
        Checks.is("by the case as it is", x.least(0, 0, 0), 2);
    }

    private static void fitting() {
        WornType x = Checks.made("letter a 2 5;letter b 3 9;letter c 1 20;price b 5;price c 7;", "a,b,c;", "a a a", "a");
        Checks.is("price", x.fitting(0, 5, 0, 0), 7);
        Checks.is("words", x.fitting(0, 5, 0, 1) * 100 + x.fitting(0, 5, 1, 1) * 10 + x.fitting(0, 5, 2, 1), 1);
        Checks.is("price without a", x.fitting(0, 6, 0, 0), 15);
        Checks.is("none", x.fitting(0, 10, 0, 0), -1);
        Checks.is("none", x.fitting(0, 10, 0, 1), -1);
        Checks.is("one c", x.fitting(1, 10, 0, 1), 2);
        Checks.is("none such", x.fitting(1, 10, 1, 1), -1);
        Checks.is("least is not asked what fits", x.least(0, 0, 0), 3);
        x.set(1, 1);
        Checks.is("not what is on a page", x.fitting(0, 1, 0, 0), 11);
        Checks.missing("fitting(2, 1, 0, 0)", () -> x.fitting(2, 1, 0, 0));
        Checks.missing("fitting(-1, 0, 0, 9)", () -> x.fitting(-1, 0, 0, 9));
        Checks.wrong("fitting(0, 0, 0, 0)", () -> x.fitting(0, 0, 0, 0));
        Checks.wrong("fitting(0, 401, 0, 0)", () -> x.fitting(0, 401, 0, 0));
        Checks.wrong("fitting(0, 1, 0, 2)", () -> x.fitting(0, 1, 0, 2));
        Checks.wrong("fitting(0, 1, 0, -1)", () -> x.fitting(0, 1, 0, -1));
    }

    private static void tooManyRows() {
        WornType x = Checks.made("letter w 12 9;follow 0 0;", "w/1,x;" + FIVE, "w".repeat(1) + " w".repeat(11),
            "w w w" + " a a a a", "a a a a a a");
        Checks.is("4,096 rows", x.fitting(0, 9, 0, 0), 12);
        Checks.is("5,000 rows, also those that may not follow", x.fitting(1, 9, 0, 0), -2);
        Checks.is("15,625 rows", x.fitting(2, 1, 0, 1), -2);
        Checks.wrong("fitting with a wrong what", () -> x.fitting(2, 1, 0, 3));
    }

    private static void wordings() {
        WornType x = Checks.made("follow 1 1;", "a/1,b/1,c;" + FIVE.replace('a', 'v').replace('b', 'w').replace('c', 'x'),
            "a", "a a", "a v a", "v v v v v v v v", "v v v v v v v v v v v v", "v v v v v v v v a");
        Checks.is("of one word", x.wordings(0), 3);
        Checks.is("two words", x.wordings(1), 5);
        Checks.is("three words", x.wordings(2), 45);
        Checks.is("5 to the 8th", x.wordings(3), 390625);
        Checks.is("a million at most", x.wordings(4), 1000000);
        Checks.is("a million at most", x.wordings(5), 1000000);
        Checks.missing("wordings(6)", () -> x.wordings(6));
        Checks.missing("wordings(-1)", () -> x.wordings(-1));
    }
}

/** Promises 24 to 31: what is wanted by weeks, the most, greedy, the bound, what can still be said. */
final class WeekTests {
    private WeekTests() {
    }

    static void run() {
        want();
        mostAndGreedy();
        byWeeks();
        leastBits();
        byHabit();
        bound();
        saidAndLost();
        nothingStaysChanged();
    }

    private static void want() {
        WornType x = Checks.made("letter a 1 9;", "a;", "a");
        Checks.missing("want(1, 0, 0, 0)", () -> x.want(1, 0, 0, 0));
        Checks.missing("want(-1, 1, 1, 1)", () -> x.want(-1, 1, 1, 1));
        Checks.wrong("want(0, 0, 1, 1)", () -> x.want(0, 0, 1, 1));
        Checks.wrong("want(0, 401, 1, 1)", () -> x.want(0, 401, 1, 1));
        Checks.wrong("want(0, 1, -1, 1)", () -> x.want(0, 1, -1, 1));
        Checks.wrong("want(0, 1, 100, 1)", () -> x.want(0, 1, 100, 1));
        Checks.wrong("want(0, 1, 1, 0)", () -> x.want(0, 1, 1, 0));
        Checks.wrong("want(0, 1, 1, 1000)", () -> x.want(0, 1, 1, 1000));
        Checks.is("wanted", x.want(0, 400, 99, 999), 1);
        for (int i = 2; i <= 10; i++) {
            Checks.is("wanted", x.want(0, 1, 0, 1), i);
        }
        Checks.is("there are ten", x.want(0, 1, 0, 1), -1);
        Checks.wrong("the 11th is wrong all the same", () -> x.want(0, 0, 0, 1));
        Checks.is("told", x.told(4), 10);
        Checks.is("forget", x.forget(), 10);
        Checks.is("forget again", x.forget(), 0);
        Checks.is("none", x.told(4), 0);
    }

    private static void mostAndGreedy() {
        WornType x = Checks.made("letter a 1 10;letter b 1 5;", "a;b;ab;", "a", "b", "ab");
        x.want(0, 6, 1, 5);
        x.want(0, 5, 2, 4);
        x.want(2, 5, 3, 8);
        Checks.is("greedy worth", x.greedy(0), 5);
        Checks.is("greedy bits", x.greedy(1), 1);
        Checks.is("most worth", x.most(0), 12);
        Checks.is("most bits", x.most(1), 6);
        Checks.is("sets", x.most(2), 5);
        Checks.wrong("most(3)", () -> x.most(3));
        Checks.wrong("most(-1)", () -> x.most(-1));
        Checks.wrong("greedy(2)", () -> x.greedy(2));
        Checks.wrong("greedy(-1)", () -> x.greedy(-1));
        x.set(1, 1);
        Checks.is("a piece on a page is not used", x.most(0), 5);
        Checks.is("sets", x.most(2), 3);
    }

    private static void byWeeks() {
        WornType x = Checks.made("letter a 1 10;", "a;", "a");
        x.want(0, 7, 50, 1);
        x.want(0, 4, 20, 1);
        x.want(0, 6, 20, 1);
        x.want(0, 4, 3, 1);
        Checks.is("in the order of weeks, alike as told", x.greedy(1), 10);
        Checks.is("its worth", x.greedy(0), 2);
    }

    private static void leastBits() {
        WornType x = Checks.made("letter a 1 6;", "a;", "a");
        x.want(0, 6, 9, 7);
        x.want(0, 3, 1, 3);
        x.want(0, 3, 2, 4);
        Checks.is("of alike the least bits", x.most(1), 1);
        x.want(0, 1, 3, 1);
        Checks.is("still the least", x.most(1), 1);
        x.forget();
        x.want(0, 3, 1, 3);
        x.want(0, 3, 2, 4);
        x.want(0, 6, 9, 7);
        Checks.is("two of less bits", x.most(1), 3);
    }

    private static void byHabit() {
        WornType x = Checks.made("letter a 1 10;letter a 1 4;", "a;aa;", "a", "aa");
        x.want(0, 4, 1, 1);
        x.want(1, 4, 2, 5);
        x.want(0, 10, 3, 7);
        Checks.is("the least first", x.greedy(1), 5);
        Checks.is("sets", x.most(2), 5);
        x.habit(1);
        Checks.is("the most first", x.greedy(1), 3);
        Checks.is("most", x.most(0), 7);
        Checks.is("of these the least", x.most(1), 4);
        Checks.is("sets", x.most(2), 5);
    }

    private static void bound() {
        WornType x = Checks.made("letter a 2 10;letter b 1 7;", "a;b;aab;c;", "a", "b", "aab", "c");
        Checks.is("nothing wanted", x.bound(), 0);
        x.want(0, 10, 1, 20);
        Checks.is("all", x.bound(), 20);
        x.want(2, 10, 1, 30);
        Checks.is("by b 7 of 10", x.bound(), 20 + 15);
        x.want(1, 4, 1, 40);
        Checks.is("by b 3 of 10", x.bound(), 20 + 40 + 9);
        x.set(0, 1);
        Checks.is("by a, 10 in the case", x.bound(), 40 + 20);
        x.want(3, 1, 1, 999);
        Checks.is("without a piece of c", x.bound(), 90);
        x.forget();
        x.want(1, 10, 1, 1);
        Checks.is("cut", x.bound(), 0);
    }

    private static void saidAndLost() {
        WornType x = Checks.made("letter a 1 10;letter b 1 5;", "a;ab;c;", "a", "ab");
        x.want(0, 8, 5, 5);
        x.want(1, 2, 5, 5);
        x.want(1, 1, 2, 5);
        Checks.is("said at first", x.said(0, 2), 10);
        Checks.is("said behind week 2", x.said(0, 3), 9);
        Checks.is("said behind week 5", x.said(0, 6), 1);
        Checks.is("said at the end", x.said(1, 100), 1);
        Checks.is("lost of all", x.lost(0), 1);
        Checks.is("lost at the end", x.lost(100), 1);
        Checks.is("never", x.ends(0), -1);
        Checks.is("from the first", x.ends(2), 0);
        x.want(1, 1, 99, 1);
        Checks.is("at the end", x.ends(1), 100);
        Checks.is("not yet", x.lost(99), 1);
        Checks.is("lost", x.lost(100), 3);
        Checks.is("said no more", x.said(0, 100), 0);
        Checks.missing("said(3, 0)", () -> x.said(3, 0));
        Checks.missing("said(-1, 101)", () -> x.said(-1, 101));
        Checks.wrong("said(0, -1)", () -> x.said(0, -1));
        Checks.wrong("said(0, 101)", () -> x.said(0, 101));
        Checks.wrong("lost(-1)", () -> x.lost(-1));
        Checks.wrong("lost(101)", () -> x.lost(101));
        Checks.missing("ends(3)", () -> x.ends(3));
        Checks.missing("ends(-1)", () -> x.ends(-1));
    }

    private static void nothingStaysChanged() {
        WornType x = Checks.made("letter a 2 10;", "a;", "a");
        x.want(0, 8, 5, 5);
        x.most(0);
        x.greedy(0);
        x.said(0, 100);
        x.ends(0);
        x.bound();
        Checks.is("left", x.letter(0, 2), 20);
        Checks.is("in the case", x.letter(0, 1), 2);
        Checks.is("wanted", x.told(4), 1);
    }
}

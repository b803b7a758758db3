/** Promises 32 to 34: a piece exchanged, a piece cast, texts that can stand together. */
final class TradeTests {
    private TradeTests() {
    }

    static void run() {
        exchange();
        exchangeAlike();
        cast();
        together();
    }

    private static void exchange() {
        WornType x = Checks.made("letter a 1 9;letter a 1 2;letter b 1 4;letter c 2 1;there b 1 8;there b 1 6;there d 1 3;",
            "a;ab;bb;d;aab;abd;", "a", "ab", "bb", "d", "aab", "abd");
        Checks.is("more of a is not to be had", x.exchange(0), -1);
        Checks.is("their b for the least a, which is not needed", x.exchange(1), 1);
        Checks.is("a second b", x.exchange(2), 1);
        Checks.is("a letter that we have none of", x.exchange(3), 3);
        Checks.is("all of a are needed", x.exchange(4), -1);
        Checks.is("d, and b stays", x.exchange(5), 3);
        Checks.is("nothing is changed", x.can(2), 0);
        Checks.missing("exchange(6)", () -> x.exchange(6));
        Checks.missing("exchange(-1)", () -> x.exchange(-1));
    }

    private static void exchangeAlike() {
        WornType x = Checks.made("letter a 1 2;there a 1 9;", "a;aa;", "a", "aa");
        Checks.is("a for a", x.exchange(0), 0);
        Checks.is("not a second one", x.exchange(1), -1);
        WornType y = Checks.made("letter a 1 9;letter a 1 2;letter c 1 1;there a 1 9;", "aa;c;a;", "aa", "c", "a");
        Checks.is("the worn a for theirs", y.exchange(0), 0);
        y.set(1, 1);
        Checks.is("what is on a page is not given", y.exchange(0), 0);
        y.apart(0);
        y.set(2, 2);
        Checks.is("c for a, for one a is on a page", y.exchange(0), 200);
        WornType z = Checks.made("there a 1 9;", "a;", "a");
        Checks.is("nothing to give", z.exchange(0), -1);
    }

    private static void cast() {
        WornType x = Checks.made("letter a 1 9;letter b 1 4;", "a;ab;aa;cc;abc;", "a", "ab", "aa", "cc", "abc");
        Checks.is("a for a", x.cast(0, 10), 0);
        Checks.is("no more than now", x.cast(0, 9), -1);
        Checks.is("b", x.cast(1, 5), 1);
        Checks.is("a second a", x.cast(2, 1), 0);
        Checks.is("one c is too few", x.cast(3, 400), -1);
        Checks.is("a c", x.cast(4, 400), 2);
        Checks.is("nothing is changed", x.can(2), 0);
        Checks.missing("cast(5, 1)", () -> x.cast(5, 1));
        Checks.missing("cast(-1, 0)", () -> x.cast(-1, 0));
        Checks.wrong("cast(0, 0)", () -> x.cast(0, 0));
        Checks.wrong("cast(0, 401)", () -> x.cast(0, 401));
        WornType full = Checks.made("letter a 12 9;", "a;", "a a a a a a a a a a a a");
        Checks.is("a 13th takes the place of none", full.cast(0, 400), -1);
    }

    private static void together() {
        WornType x = Checks.made("letter a 3 9;letter a 1 2;letter b 1 400;", "aaa;a;b;", "aaa", "a", "a", "b", "a", "a");
        Checks.is("for 1 copy", x.together(1), 1 << 1 | 1 << 2 | 1 << 3 | 1 << 4 | 1 << 5);
        Checks.is("for 3 copies", x.together(3), 1 << 1 | 1 << 2 | 1 << 3 | 1 << 4);
        Checks.is("for 9 copies, by the other habit", x.habit(1) + x.together(9), 30);
        Checks.is("for 10 copies", x.together(10), 8);
        x.set(3, 1);
        Checks.is("from the case", x.together(10), 0);
        Checks.wrong("together(0)", () -> x.together(0));
        Checks.wrong("together(401)", () -> x.together(401));
        WornType y = Checks.made("letter a 2 9;letter b 1 9;letter c 1 9;", "aa;ab;ac;", "aa", "ab", "ac");
        Checks.is("the most, though not the first", y.together(1), 6);
        WornType z = Checks.made("letter a 1 9;", "a;", "a", "a");
        Checks.is("of alike the least", z.together(1), 1);
    }
}

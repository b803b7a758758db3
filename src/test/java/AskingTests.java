/** Promises 7 to 15: what is told of letters, pieces, words and texts, the habit, what can be set. */
final class AskingTests {
    private AskingTests() {
    }

    static void run() {
        told();
        letters();
        pieces();
        words();
        texts();
        habits();
        canAndLacks();
    }

    private static void told() {
        WornType x = Checks.made("letter a 3 10;faint 8;", "a,b;c;", "a", "b c");
        x.want(0, 1, 1, 1);
        x.habit(1);
        x.set(0, 1);
        int[] due = {3, 3, 2, 1, 1, 8, 1, 2};
        for (int what = 0; what < due.length; what++) {
            Checks.is("told " + what, x.told(what), due[what]);
        }
        Checks.wrong("told(-1)", () -> x.told(-1));
        Checks.wrong("told(8)", () -> x.told(8));
    }

    private static void letters() {
        WornType x = Checks.made("letter c 1 5;letter c 2 3;letter c 1 9;there c 4 2;price c 20;like c z;", "cc;", "cc");
        x.set(0, 3);
        x.print(0, 3);
        int[] due = {4, 2, 14, 9, 2, 20, 25, 4};
        for (int what = 0; what < due.length; what++) {
            Checks.is("letter(2, " + what + ")", x.letter(2, what), due[what]);
        }
        int[] none = {0, 0, 0, 0, 0, 1, -1, 0};
        for (int what = 0; what < none.length; what++) {
            Checks.is("letter(25, " + what + ")", x.letter(25, what), none[what]);
        }
        Checks.wrong("letter(-1, 0)", () -> x.letter(-1, 0));
        Checks.wrong("letter(26, 0)", () -> x.letter(26, 0));
        Checks.wrong("letter(0, -1)", () -> x.letter(0, -1));
        Checks.wrong("letter(0, 8)", () -> x.letter(0, 8));
    }

    private static void pieces() {
        WornType x = Checks.made("letter c 1 5;letter a 1 7;letter c 1 3;", "c;", "c");
        x.set(0, 1);
        Checks.is("left of the first", x.piece(2, 0, 0), 5);
        Checks.is("left of the second", x.piece(2, 1, 0), 3);
        Checks.is("in the case", x.piece(2, 0, 1), -1);
        Checks.is("on a page", x.piece(2, 1, 1), 0);
        Checks.raises("piece(2, 2, 0)", IndexOutOfBoundsException.class, () -> x.piece(2, 2, 0));
        Checks.raises("piece(2, -1, 0)", IndexOutOfBoundsException.class, () -> x.piece(2, -1, 0));
        Checks.raises("piece(2, 2, 9)", IndexOutOfBoundsException.class, () -> x.piece(2, 2, 9));
        Checks.wrong("piece(26, 0, 0)", () -> x.piece(26, 0, 0));
        Checks.wrong("piece(-1, 99, 0)", () -> x.piece(-1, 99, 0));
        Checks.wrong("piece(2, 0, 2)", () -> x.piece(2, 0, 2));
        Checks.wrong("piece(2, 0, -1)", () -> x.piece(2, 0, -1));
    }

    private static void words() {
        WornType x = Checks.made("letter c 2 5;letter a 1 7;price c 3;price x 99;", "a;cc/2,aca;x;ccc;");
        int[][] due = {{1, 0, 0, 1, 7}, {2, 2, 1, 6, 5}, {3, 0, 1, 5, 0}, {1, 0, 2, 99, 0}, {3, 0, 3, 9, 0}};
        for (int word = 0; word < due.length; word++) {
            for (int what = 0; what < 5; what++) {
                Checks.is("word(" + word + ", " + what + ")", x.word(word, what), due[word][what]);
            }
        }
        Checks.missing("word(5, 0)", () -> x.word(5, 0));
        Checks.missing("word(-1, 9)", () -> x.word(-1, 9));
        Checks.wrong("word(0, 5)", () -> x.word(0, 5));
        Checks.wrong("word(0, -1)", () -> x.word(0, -1));
    }

    private static void texts() {
        WornType x = Checks.made("", "cat,bat/1;at;", "at cat at", "bat");
        Checks.is("at(0, 0)", x.at(0, 0), 2);
        Checks.is("at(0, 1)", x.at(0, 1), 0);
        Checks.is("at(0, 3)", x.at(0, 3), -1);
        Checks.is("at(0, -1)", x.at(0, -1), -1);
        Checks.is("at(1, 1)", x.at(1, 1), -1);
        Checks.missing("at(2, 0)", () -> x.at(2, 0));
        Checks.missing("at(-1, 0)", () -> x.at(-1, 0));
        Checks.is("needs a", x.needs(0, 0), 3);
        Checks.is("needs c", x.needs(0, 2), 1);
        Checks.is("needs b", x.needs(0, 1), 0);
        Checks.is("needs b", x.needs(1, 1), 1);
        Checks.missing("needs(2, 0)", () -> x.needs(2, 0));
        Checks.wrong("needs(0, 26)", () -> x.needs(0, 26));
        Checks.wrong("the letter is looked at first", () -> x.needs(2, -1));
    }

    private static void habits() {
        WornType x = new WornType();
        Checks.is("habit 0", x.habit(1), 0);
        Checks.is("habit 1", x.habit(1), 1);
        Checks.wrong("habit(2)", () -> x.habit(2));
        Checks.wrong("habit(-1)", () -> x.habit(-1));
        Checks.is("habit 1 stays", x.habit(0), 1);
        Checks.is("habit 0 again", x.told(6), 0);
    }

    private static void canAndLacks() {
        WornType x = Checks.made("letter a 1 2;letter a 1 400;letter a 2 7;letter b 1 9;", "a;b;c;", "a a a", "b a", "b c");
        Checks.is("the third of a", x.can(0), 7);
        Checks.is("the least of two letters", x.can(1), 9);
        Checks.is("a letter without pieces", x.can(2), 0);
        Checks.missing("can(3)", () -> x.can(3));
        Checks.is("lacks nothing", x.lacks(0, 7), -1);
        Checks.is("lacks a", x.lacks(0, 8), 0);
        Checks.is("lacks b", x.lacks(1, 10), 1);
        Checks.is("lacks the first letter", x.lacks(2, 10), 1);
        Checks.is("lacks the last letter", x.lacks(2, 9), 2);
        Checks.missing("lacks(3, 0)", () -> x.lacks(3, 0));
        Checks.wrong("lacks(0, 0)", () -> x.lacks(0, 0));
        Checks.wrong("lacks(0, 401)", () -> x.lacks(0, 401));
        x.habit(1);
        x.set(1, 9);
        Checks.is("pieces on a page are not in the case", x.can(0), 2);
        Checks.is("lacks b on the page", x.lacks(1, 1), 1);
        Checks.is("a word alone", x.word(0, 4), 7);
    }
}

/** Promises 16 to 20, 35 and 36: pages set, printed, taken apart and read, and images of all. */
final class PageTests {
    private PageTests() {
    }

    static void run() {
        set();
        setByHabit();
        fourPages();
        print();
        apart();
        page();
        read();
        readInTheOrderTaken();
        images();
        imagesHoldAll();
        imagesHoldOrders();
    }

    private static void set() {
        WornType x = Checks.made("letter a 2 5;letter b 1 400;", "a;b;", "a b", "b");
        Checks.missing("set(2, 1)", () -> x.set(2, 1));
        Checks.missing("set(-1, 0)", () -> x.set(-1, 0));
        Checks.wrong("set(0, 0)", () -> x.set(0, 0));
        Checks.wrong("set(0, 401)", () -> x.set(0, 401));
        Checks.is("too few left", x.set(0, 6), -1);
        Checks.is("nothing set", x.told(3), 0);
        Checks.is("set", x.set(1, 400), 0);
        Checks.is("b is on the page", x.set(0, 1), -1);
        Checks.is("nothing is printed by setting", x.piece(1, 0, 0), 400);
    }

    private static void setByHabit() {
        for (int habit = 0; habit <= 1; habit++) {
            WornType x = Checks.made("letter a 1 5;letter a 2 3;letter a 2 9;letter a 1 4;", "a;aa;", "a", "aa");
            x.habit(habit);
            Checks.is("set", x.set(1, 4), 0);
            Checks.is("set", x.set(0, 3), 1);
            int[] least = {0, 1, -1, -1, -1, 0};
            int[] most = {1, -1, -1, 0, 0, -1};
            for (int i = 0; i < 6; i++) {
                Checks.is("the page of piece " + i + " by " + habit, x.piece(0, i, 1), (habit == 0 ? least : most)[i]);
            }
        }
    }

    private static void fourPages() {
        WornType x = Checks.made("letter a 6 5;", "a;aaa;", "a", "aaa");
        for (int page = 0; page < 4; page++) {
            Checks.is("page " + page, x.set(0, 1), page);
        }
        Checks.is("four stand", x.set(0, 1), -2);
        Checks.is("four stand, and it can't be", x.set(1, 1), -1);
        Checks.is("it can be all the same", x.can(0), 5);
        x.apart(2);
        x.apart(1);
        Checks.is("the least free page", x.set(0, 1), 1);
        Checks.is("the next one", x.set(0, 1), 2);
        Checks.is("again four", x.told(3), 4);
    }

    private static void print() {
        WornType x = Checks.made("letter a 2 5;letter a 1 7;", "aaa;", "aaa");
        Checks.missing("print(0, 1)", () -> x.print(0, 1));
        x.set(0, 5);
        Checks.missing("print(4, 1)", () -> x.print(4, 1));
        Checks.missing("print(-1, 0)", () -> x.print(-1, 0));
        Checks.wrong("print(0, 0)", () -> x.print(0, 0));
        Checks.wrong("print(0, 401)", () -> x.print(0, 401));
        Checks.is("too few left", x.print(0, 6), -1);
        Checks.is("nothing printed", x.letter(0, 2), 17);
        Checks.is("printed", x.print(0, 2), 0);
        Checks.is("left", x.letter(0, 2), 11);
        Checks.is("worn out", x.print(0, 3), 2);
        Checks.is("left", x.letter(0, 2), 2);
        Checks.is("worn out pieces", x.letter(0, 4), 2);
        Checks.is("no more", x.print(0, 1), -1);
    }

    private static void apart() {
        WornType x = Checks.made("letter a 4 5;letter b 1 5;", "aab;a;", "aab", "a");
        x.set(0, 1);
        x.set(1, 1);
        x.print(0, 2);
        Checks.is("pieces", x.apart(0), 3);
        Checks.missing("apart twice", () -> x.apart(0));
        Checks.missing("apart(4)", () -> x.apart(4));
        Checks.missing("apart(-1)", () -> x.apart(-1));
        Checks.is("they are in the case", x.letter(0, 1), 3);
        Checks.is("worn as they are", x.piece(0, 0, 0), 3);
        Checks.is("the other page stands", x.page(1, 0), 1);
    }

    private static void page() {
        WornType x = Checks.made("letter a 1 4;letter a 2 9;letter b 1 5;faint 5;", "ab;a;", "a a", "ab a");
        x.set(1, 1);
        Checks.is("its text", x.page(0, 0), 1);
        Checks.is("pieces", x.page(0, 1), 3);
        Checks.is("faint ones", x.page(0, 2), 1);
        Checks.is("how often", x.page(0, 3), 4);
        Checks.is("without like nothing is misread", x.page(0, 4), 0);
        x.print(0, 1);
        Checks.is("faint ones", x.page(0, 2), 2);
        Checks.is("how often", x.page(0, 3), 3);
        Checks.missing("page(1, 0)", () -> x.page(1, 0));
        Checks.missing("page(-1, 9)", () -> x.page(-1, 9));
        Checks.missing("page(4, 0)", () -> x.page(4, 0));
        Checks.wrong("page(0, 5)", () -> x.page(0, 5));
        Checks.wrong("page(0, -1)", () -> x.page(0, -1));
    }

    private static void read() {
        WornType x = Checks.made("letter c 2 1;letter a 3 9;letter t 3 9;letter b 1 1;faint 5;like c b;like b x;",
            "cat;bat;cab;at;", "cat at cab", "bat");
        x.set(0, 1);
        Checks.is("misread", x.read(0, 0), 1);
        Checks.is("read as it is", x.read(0, 1), 3);
        Checks.is("read as none", x.read(0, 2), -1);
        Checks.is("none such", x.read(0, 3), -2);
        Checks.is("none such", x.read(0, -1), -2);
        Checks.is("read otherwise, or not at all", x.page(0, 4), 2);
        Checks.missing("read(1, 0)", () -> x.read(1, 0));
        Checks.missing("read(-1, 0)", () -> x.read(-1, 0));
        Checks.missing("read(4, 0)", () -> x.read(4, 0));
    }

    private static void readInTheOrderTaken() {
        for (int habit = 0; habit <= 1; habit++) {
            WornType x = Checks.made("letter o 1 9;letter o 1 2;faint 3;like o e;", "on,en;no;ne;", "on no");
            Checks.is("no n yet", x.set(0, 1), -1);
            x = Checks.made("letter o 1 9;letter o 1 2;letter n 2 9;faint 3;like o e;", "on,en;no;ne;", "on no");
            x.habit(habit);
            x.set(0, 1);
            Checks.is("the first o", x.read(0, 0), habit == 0 ? 1 : 0);
            Checks.is("the second o", x.read(0, 1), habit == 0 ? 2 : 3);
            x.habit(1 - habit);
            Checks.is("a later habit changes nothing", x.read(0, 0), habit == 0 ? 1 : 0);
        }
    }

    private static void images() {
        WornType x = new WornType();
        Checks.is("none to restore", x.restore(), -1);
        Checks.is("an image", x.image(), 1);
        x.habit(1);
        Checks.is("an image", x.image(), 2);
        Checks.is("an image", x.image(), 3);
        Checks.is("there are three", x.image(), -1);
        Checks.is("count", x.count(0), 3);
        Checks.is("restored", x.restore(), 2);
        x.habit(0);
        Checks.is("restored", x.restore(), 1);
        Checks.is("the habit of the second", x.told(6), 1);
        Checks.is("restored", x.restore(), 0);
        Checks.is("the habit of the first", x.told(6), 0);
        Checks.is("none left", x.restore(), -1);
    }

    private static void imagesHoldAll() {
        WornType x = Checks.made("letter a 1 3;letter a 3 5;letter b 1 9;faint 4;like a b;", "a,b;aa,ba;", "a", "aa");
        x.set(1, 2);
        x.want(0, 1, 5, 8);
        x.image();
        x.print(0, 3);
        x.apart(0);
        x.set(0, 4);
        x.want(1, 1, 1, 9);
        x.want(1, 1, 1, 9);
        x.forget();
        x.habit(1);
        Checks.text(x, "aa a");
        Checks.tape(x, "aa");
        Checks.is("restored", x.restore(), 0);
        Checks.is("left", x.letter(0, 2), 18);
        Checks.is("the page's text", x.page(0, 0), 1);
        Checks.is("the page's pieces", x.page(0, 1), 2);
        Checks.is("one page", x.told(3), 1);
        Checks.is("as it was read", x.read(0, 0), 3);
        Checks.is("in the case", x.piece(0, 3, 1), -1);
        Checks.is("wanted", x.told(4), 1);
        Checks.is("its worth", x.greedy(0), 8);
        Checks.is("the habit", x.told(6), 0);
        Checks.is("texts stay", x.told(2), 3);
        Checks.is("the tape stays", x.count(1), 20);
    }

    private static void imagesHoldOrders() {
        WornType x = Checks.made("letter o 1 9;letter o 1 2;letter n 2 9;faint 3;like o e;", "on,en;no;ne;", "on no");
        x.set(0, 1);
        x.want(0, 1, 9, 1);
        x.want(0, 2, 8, 2);
        Checks.is("the later week is too late", x.greedy(1), 0);
        x.image();
        x.apart(0);
        x.habit(1);
        x.set(0, 1);
        x.forget();
        x.want(0, 1, 1, 1);
        x.want(0, 2, 2, 2);
        Checks.is("in the other order", x.read(0, 1), 3);
        Checks.is("restored", x.restore(), 0);
        Checks.is("the first o as before", x.read(0, 0), 1);
        Checks.is("the second o as before", x.read(0, 1), 2);
        x.apart(0);
        Checks.is("week 8 ahead of week 9", x.greedy(1), 2);
    }
}

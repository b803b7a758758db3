import java.util.ArrayList;
import java.util.Arrays;
import java.util.HashMap;
import java.util.List;
import java.util.Map;
import java.util.Set;

/**
 * Every call with every argument at the least and the greatest value that is taken, at the first one outside on
 * either side, and at both ends of the ints, in all mixtures: which exception comes, which one first, that nothing
 * has changed by it, and that asking changes nothing either.
 */
final class RefusalTests {
    private interface Call {
        int on(WornType x);
    }

    private record Argument(int least, int most, String outside, boolean ahead) {
        static Argument told(int least, int most) {
            return new Argument(least, most, "IllegalArgumentException", false);
        }

        static Argument number(int most) {
            return new Argument(0, most, "NoSuchElementException", false);
        }

        boolean takes(int value) {
            return value >= least && value <= most;
        }

        int[] values() {
            Set<Integer> values = new java.util.TreeSet<>(List.of(Integer.MIN_VALUE, Integer.MAX_VALUE, least, most));
            if (least > Integer.MIN_VALUE) {
                values.add(least - 1);
                values.add(most + 1);
            } else {
                values.addAll(List.of(-1, 0, 1));
            }
            return values.stream().mapToInt(Integer::intValue).toArray();
        }
    }

    private static final Argument LETTER = new Argument(0, 25, "IllegalArgumentException", true);
    private static final Argument PIECE = new Argument(0, 2, "IndexOutOfBoundsException", false);
    private static final Argument WORD = Argument.number(5);
    private static final Argument TEXT = Argument.number(2);
    private static final Argument PAGE = Argument.number(1);
    private static final Argument COPIES = Argument.told(1, 400);
    private static final Argument BYTES = Argument.told(0, 20);
    private static final Argument ANY = new Argument(Integer.MIN_VALUE, Integer.MAX_VALUE, "", false);

    private static final Set<String> CHANGE = Set.of("kase", "tongue", "text", "habit", "set", "print", "apart", "want");

    private static final Map<String, String> DUE = new HashMap<>();

    private RefusalTests() {
    }

    static void run() {
        DUE.clear();
        DUE.putAll(Seen.of(Seen.waiting()));
        threeTexts();
        asking();
        pages();
        wordings();
        weeks();
        trade();
        pieces();
        answers("fault");
        answers("bound");
        ofNothing();
        byAnAnswer();
    }

    private static void threeTexts() {
        mixtures("kase", BYTES);
        mixtures("tongue", BYTES);
        mixtures("text", BYTES);
        mixtures("count", ANY);
    }

    private static void asking() {
        mixtures("told", Argument.told(0, 7));
        mixtures("letter", LETTER, Argument.told(0, 7));
        mixtures("word", WORD, Argument.told(0, 4));
        mixtures("at", TEXT, ANY);
        mixtures("needs", TEXT, LETTER);
        mixtures("habit", Argument.told(0, 1));
        mixtures("can", TEXT);
        mixtures("lacks", TEXT, COPIES);
    }

    private static void pages() {
        mixtures("set", TEXT, COPIES);
        mixtures("print", PAGE, COPIES);
        mixtures("apart", PAGE);
        mixtures("page", PAGE, Argument.told(0, 4));
        mixtures("read", PAGE, ANY);
    }

    private static void wordings() {
        mixtures("least", TEXT, ANY, Argument.told(0, 1));
        mixtures("fitting", TEXT, COPIES, ANY, Argument.told(0, 1));
        mixtures("wordings", TEXT);
    }

    private static void weeks() {
        mixtures("want", TEXT, COPIES, Argument.told(0, 99), Argument.told(1, 999));
        mixtures("most", Argument.told(0, 2));
        mixtures("greedy", Argument.told(0, 1));
        mixtures("said", WORD, Argument.told(0, 100));
        mixtures("lost", Argument.told(0, 100));
        mixtures("ends", WORD);
    }

    private static void trade() {
        mixtures("exchange", TEXT);
        mixtures("cast", TEXT, COPIES);
        mixtures("together", COPIES);
    }

    /** Here a has three PIECES and d has none. */
    private static void pieces() {
        for (int letter : new int[] {Integer.MIN_VALUE, -1, 0, 3, 26, Integer.MAX_VALUE}) {
            for (int i : PIECE.values()) {
                for (int what : Argument.told(0, 1).values()) {
                    String due = what < 0 || what > 1 ? LETTER.outside : "";
                    due = letter == 3 || !PIECE.takes(i) ? PIECE.outside : due;
                    due = LETTER.takes(letter) ? due : LETTER.outside;
                    check("piece", due, letter, i, what);
                }
            }
        }
    }

    /** A new object has no WORD, TEXT, PAGE, PIECE: the number 0 is no such one. */
    private static void ofNothing() {
        Map<String, int[]> calls = new HashMap<>();
        for (String name : List.of("can", "apart", "wordings", "ends", "exchange")) {
            calls.put(name, new int[1]);
        }
        for (String name : List.of("word", "at", "needs", "lacks", "set", "print", "page", "read", "said", "cast")) {
            calls.put(name, new int[2]);
        }
        calls.put("least", new int[3]);
        calls.put("fitting", new int[4]);
        calls.put("want", new int[4]);
        calls.forEach((name, arguments) -> Checks.same(name + " of a new object",
            Checks.outcome(new WornType(), name, arguments), "NoSuchElementException"));
        Checks.same("piece of a new object", Checks.outcome(new WornType(), "piece", 0, 0, 0), "IndexOutOfBoundsException");
    }

    /** What is refused by -1, -2 or NONE changes nothing either. */
    private static void byAnAnswer() {
        answered("set, by pieces", -1, x -> 0, x -> x.set(0, 1));
        answered("set, by copies", -1, x -> 0, x -> x.set(1, 8));
        answered("set, four stand", -2, RefusalTests::standFour, x -> x.set(3, 1));
        answered("set, four stand and by copies", -1, RefusalTests::standFour, x -> x.set(1, 8));
        answered("print, by one copy of b", -1, x -> 0, x -> x.print(0, 7));
        answered("print, of a faint page", -1, x -> 0, x -> x.print(1, 2));
        answered("print, of a worn page", -1, x -> x.print(1, 1), x -> x.print(1, 1));
        answered("want, an 11th", -1, RefusalTests::wantTen, x -> x.want(0, 1, 0, 999));
        answered("image, a fourth", -1, x -> x.image(), x -> x.image());
        answered("restore, of none", -1, x -> x.restore() + x.restore(), x -> x.restore());
        answered("feed, of a full tape", -1, RefusalTests::fillTape, x -> x.feed(0x61616161, 1, 2, 3, 4));
        answered("read, of none such", -2, x -> 0, x -> x.read(0, 2));
        answered("fitting, of none", -1, x -> 0, x -> x.fitting(0, 400, 0, 0));
        answered("exchange, of no use", -1, x -> 0, x -> x.exchange(2));
        answered("cast, of no use", -1, x -> 0, x -> x.cast(2, 1));
    }

    private static int standFour(WornType x) {
        Checks.text(x, "c");
        return x.set(3, 1) + x.set(3, 1);
    }

    private static int wantTen(WornType x) {
        for (int n = 4; n <= 10; n++) {
            x.want(n % 3, n, 10 - n, 1);
        }
        return x.told(4);
    }

    private static int fillTape(WornType x) {
        return Checks.tape(x, "c a c" + " ".repeat(495));
    }

    private static void answered(String what, int due, Call ahead, Call call) {
        WornType x = Seen.busy();
        WornType twin = Seen.busy();
        Checks.is("ahead of " + what, ahead.on(x), ahead.on(twin));
        Checks.is(what, call.on(x), due);
        Checks.same("all behind " + what, Seen.of(x), Seen.of(twin));
    }

    private static void mixtures(String name, Argument... bounds) {
        List<int[]> rows = new ArrayList<>();
        rows.add(new int[0]);
        for (Argument bound : bounds) {
            List<int[]> longer = new ArrayList<>();
            for (int[] row : rows) {
                for (int value : bound.values()) {
                    int[] next = Arrays.copyOf(row, row.length + 1);
                    next[row.length] = value;
                    longer.add(next);
                }
            }
            rows = longer;
        }
        for (int[] row : rows) {
            check(name, firstOutside(row, bounds), row);
        }
    }

    private static String firstOutside(int[] row, Argument... bounds) {
        String due = "";
        for (int i = row.length - 1; i >= 0; i--) {
            due = bounds[i].takes(row[i]) ? due : bounds[i].outside;
        }
        for (int i = 0; i < row.length; i++) {
            due = bounds[i].ahead && !bounds[i].takes(row[i]) ? bounds[i].outside : due;
        }
        return due;
    }

    private static void check(String name, String due, int... arguments) {
        if (due.isEmpty()) {
            answers(name, arguments);
        } else {
            refused(name, due, arguments);
        }
    }

    private static void refused(String name, String due, int... arguments) {
        String call = name + Arrays.toString(arguments);
        WornType x = Seen.waiting();
        Checks.same(call, Checks.outcome(x, name, arguments), due);
        Checks.same("all behind " + call, Seen.of(x), DUE);
    }

    private static void answers(String name, int... arguments) {
        String call = name + Arrays.toString(arguments);
        WornType x = Seen.waiting();
        String got = Checks.outcome(x, name, arguments);
        Checks.same(call + ", which is taken, answers: " + got, got.matches("-?[0-9]+"), true);
        if (!CHANGE.contains(name)) {
            Checks.same("all behind " + call, Seen.of(x), DUE);
        }
    }
}

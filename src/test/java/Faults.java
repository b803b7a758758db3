import java.util.Map;

/** A text with a FAULT, told with a | in front of the byte at which it is. */
final class Faults {
    private Faults() {
    }

    static void kase(int kind, String marked) {
        check("kase", kind, marked);
    }

    static void tongue(int kind, String marked) {
        check("tongue", kind, marked);
    }

    /** The WORDS are a, b, ab, ba, cc, c. */
    static void text(int kind, String marked) {
        check("text", kind, marked);
    }

    /** The answer, the place, and that all but the TAPE stays. */
    private static void check(String call, int kind, String marked) {
        String text = marked.replace("|", "");
        String what = call + " of \"" + marked + "\"";
        WornType x = Seen.busy();
        int length = Checks.tape(x, text);
        Checks.same(what, Checks.outcome(x, call, length), String.valueOf(kind - 10));
        Checks.is("the place in " + what, x.fault(), marked.indexOf('|'));
        Checks.is("the tape behind " + what, x.count(1), 0);
        Map<String, String> got = Seen.of(x);
        Map<String, String> due = Seen.of(Seen.busy());
        got.remove("0 fault");
        due.remove("0 fault");
        Checks.same("all behind " + what, got, due);
    }
}

import java.util.LinkedHashMap;
import java.util.Map;

/**
 * An object in the midst of its work, and all that can be seen of one: what a refused call has to leave as it was.
 * Making one, one call, and looking at all of it stay under the 512 calls for which an object is used.
 */
final class Seen {
    static final int CALLS = 512;

    private final WornType x;
    private final Map<String, String> all = new LinkedHashMap<>();

    private Seen(WornType x) {
        this.x = x;
    }

    /** Two PAGES stand, two IMAGES are there, three are WANTED, the latest text had a FAULT, the HABIT is 1. */
    static WornType busy() {
        WornType x = Checks.made("letter a 2 9;letter a 1 3;letter b 3 7;letter c 4 400;there b 1 8;price b 5;faint 4;"
            + "like a b;follow 1 1;", "a,b/1;ab,ba/1,cc;c;", "a ab", "c b", "a");
        x.set(1, 2);
        x.want(0, 2, 9, 10);
        x.image();
        x.habit(1);
        x.set(0, 3);
        x.print(1, 6);
        x.want(2, 1, 3, 20);
        x.image();
        x.print(0, 1);
        x.want(1, 1, 0, 5);
        Checks.kase(x, "faint 100;");
        return x;
    }

    /** The same with a text on the TAPE, of 20 bytes with what fills it up. */
    static WornType waiting() {
        WornType x = busy();
        Checks.tape(x, "c a c");
        return x;
    }

    /** All that x tells; x is not to be used any more then, for its IMAGES and its TAPE are looked at too. */
    static Map<String, String> of(WornType x) {
        Seen seen = new Seen(x);
        seen.lookAtWhatStays();
        for (int image = 0; image <= 3; image++) {
            seen.lookAtPieces();
            seen.lookAtPages();
            seen.lookAtWeeks();
            if (seen.see("restore").startsWith("-")) {
                break;
            }
        }
        seen.see("text", 5);
        for (int i = 0; i < 3; i++) {
            seen.see("at", 3, i);
        }
        if (seen.all.size() > CALLS - 60) {
            throw new IllegalStateException("a test looks at too much: " + seen.all.size());
        }
        return seen.all;
    }

    private String see(String name, int... arguments) {
        StringBuilder call = new StringBuilder(all.size() + " " + name);
        for (int argument : arguments) {
            call.append(' ').append(argument);
        }
        String outcome = Checks.outcome(x, name, arguments);
        all.put(call.toString(), outcome);
        return outcome;
    }

    private void lookAtWhatStays() {
        see("fault");
        see("count", 0);
        see("count", 1);
        see("told", 1);
        see("told", 2);
        see("told", 5);
        see("told", 7);
        for (int letter = 0; letter < 4; letter++) {
            see("letter", letter, 5);
            see("letter", letter, 6);
            see("letter", letter, 7);
        }
        for (int word = 0; word < 7; word++) {
            for (int what = 0; what < 5; what++) {
                see("word", word, what);
            }
            see("ends", word);
        }
        for (int text = 0; text < 4; text++) {
            see("at", text, 0);
            see("at", text, 1);
            see("at", text, 2);
            see("needs", text, 0);
            see("wordings", text);
            see("exchange", text);
        }
    }

    private void lookAtPieces() {
        see("told", 0);
        see("told", 6);
        for (int letter = 0; letter < 4; letter++) {
            see("letter", letter, 0);
            see("letter", letter, 1);
            see("letter", letter, 2);
            for (int i = 0; i < 3; i++) {
                see("piece", letter, i, 0);
                see("piece", letter, i, 1);
            }
        }
    }

    private void lookAtPages() {
        see("told", 3);
        for (int page = 0; page < 4; page++) {
            for (int what = 0; what < 5; what++) {
                see("page", page, what);
            }
            see("read", page, 0);
            see("read", page, 1);
        }
    }

    private void lookAtWeeks() {
        see("told", 4);
        see("most", 0);
        see("most", 1);
        see("greedy", 1);
        see("bound");
        see("said", 5, 4);
        see("lost", 1);
    }
}

import java.nio.charset.StandardCharsets;
import java.util.ArrayList;
import java.util.Arrays;
import java.util.List;

/** Runs of calls drawn by a fixed row of numbers, each answer held against the Model's. */
final class AgainstModelTests {
    private static final String[] CALLS = {"told", "letter", "piece", "word", "at", "needs", "habit", "can", "lacks", "set",
        "set", "set", "print", "print", "print", "apart", "page", "page", "read", "read", "least", "least", "fitting",
        "fitting", "wordings", "want", "want", "want", "forget", "most", "most", "greedy", "bound", "said", "lost", "ends",
        "exchange", "exchange", "cast", "cast", "together", "image", "restore", "count", "text", "kase", "tongue"};

    private final Numbers numbers;
    private final WornType x = new WornType();
    private final Model model = new Model();
    private final List<String> log = new ArrayList<>();

    private AgainstModelTests(long seed) {
        numbers = new Numbers(seed);
    }

    static void run() {
        for (int seed = 0; seed < Integer.getInteger("runs", 400); seed++) {
            new AgainstModelTests(seed).oneRun();
        }
    }

    /** The same row of numbers for the same seed, on every machine. */
    private static final class Numbers {
        private long state;

        Numbers(long seed) {
            state = seed * 0x9E3779B97F4A7C15L + 12345;
        }

        int below(int bound) {
            state = state * 6364136223846793005L + 1442695040888963407L;
            return (int) ((state >>> 33) % bound);
        }
    }

    private void oneRun() {
        int failedBefore = Checks.failed;
        give("kase", kase());
        give("tongue", tongue());
        int texts = 1 + numbers.below(4);
        for (int i = 0; i < texts; i++) {
            give("text", text());
        }
        for (int i = 0; i < 150 && Checks.failed == failedBefore; i++) {
            step();
        }
        if (Checks.failed > failedBefore) {
            System.out.println(String.join("\n", log));
        }
    }

    private void step() {
        String name = CALLS[numbers.below(CALLS.length)];
        boolean rare = numbers.below(6) == 0;
        switch (name) {
            case "text" -> give(name, text());
            case "kase" -> {
                if (rare) {
                    give(name, kase());
                }
            }
            case "tongue" -> {
                if (rare && numbers.below(3) == 0) {
                    give(name, tongue());
                }
            }
            case "forget", "habit", "apart" -> {
                if (numbers.below(3) == 0) {
                    call(name, arguments(name));
                }
            }
            default -> call(name, arguments(name));
        }
    }

    private int[] arguments(String name) {
        int text = numbers.below(3);
        int[] small = switch (name) {
            case "lacks", "set" -> new int[] {text, 1 + numbers.below(8)};
            case "print" -> new int[] {numbers.below(2), 1 + numbers.below(4)};
            case "page" -> new int[] {numbers.below(2), numbers.below(5)};
            case "read" -> new int[] {numbers.below(2), numbers.below(5)};
            case "letter" -> new int[] {numbers.below(6), numbers.below(8)};
            case "piece" -> new int[] {numbers.below(6), numbers.below(5), numbers.below(2)};
            case "word" -> new int[] {numbers.below(10), numbers.below(5)};
            case "at", "needs" -> new int[] {text, numbers.below(6)};
            case "least" -> new int[] {text, numbers.below(5), numbers.below(2)};
            case "fitting" -> new int[] {text, 1 + numbers.below(8), numbers.below(5), numbers.below(2)};
            case "want" -> new int[] {text, 1 + numbers.below(6), numbers.below(6), 1 + numbers.below(20)};
            case "said" -> new int[] {numbers.below(10), numbers.below(8)};
            case "lost" -> new int[] {numbers.below(8)};
            case "told" -> new int[] {numbers.below(8)};
            case "ends" -> new int[] {numbers.below(10)};
            case "cast" -> new int[] {text, 1 + numbers.below(14)};
            case "together" -> new int[] {1 + numbers.below(8)};
            case "most" -> new int[] {numbers.below(3)};
            case "greedy", "habit", "count" -> new int[] {numbers.below(2)};
            case "bound", "forget", "image", "restore" -> new int[0];
            default -> new int[] {text};
        };
        if (small.length > 0 && numbers.below(12) == 0) {
            int[] wild = {-1, 0, 12, 26, 101, 401, 1000, Integer.MAX_VALUE, Integer.MIN_VALUE, -2};
            small[numbers.below(small.length)] = wild[numbers.below(wild.length)];
        }
        return small;
    }

    private char sign() {
        return (char) ('a' + numbers.below(5));
    }

    private String kase() {
        StringBuilder text = new StringBuilder();
        for (char c = 'a'; c <= 'e'; c++) {
            text.append("letter ").append(c).append(' ').append(1 + numbers.below(4)).append(' ')
                .append(1 + numbers.below(15)).append(';');
        }
        int clauses = numbers.below(12);
        for (int i = 0; i < clauses; i++) {
            switch (numbers.below(12)) {
                case 0 -> text.append("there ").append(sign()).append(' ').append(1 + numbers.below(2)).append(' ')
                    .append(1 + numbers.below(20));
                case 1 -> text.append("price ").append(sign()).append(' ').append(numbers.below(6));
                case 2 -> text.append("faint ").append(numbers.below(8));
                case 3 -> text.append("like ").append(sign()).append(' ').append(sign());
                case 4 -> text.append("follow ").append(numbers.below(3)).append(' ').append(numbers.below(3));
                default -> text.append("letter ").append(sign()).append(' ').append(1 + numbers.below(3)).append(' ')
                    .append(1 + numbers.below(15));
            }
            text.append(';');
        }
        return spoilt(text);
    }

    private String tongue() {
        StringBuilder text = new StringBuilder();
        int groups = 2 + numbers.below(4);
        for (int g = 0; g < groups; g++) {
            int members = 1 + numbers.below(4);
            for (int m = 0; m < members; m++) {
                text.append(m > 0 ? "," : "").append(newWord(text));
                if (numbers.below(2) == 0) {
                    text.append('/').append(numbers.below(3));
                }
            }
            text.append(';');
        }
        return spoilt(text);
    }

    /** Mostly one that does not stand in the text yet; now and then whatever comes. */
    private String newWord(StringBuilder text) {
        String word = word();
        for (int i = 0; i < 30 && text.indexOf(word) >= 0; i++) {
            word = word();
        }
        return word;
    }

    private String word() {
        StringBuilder word = new StringBuilder();
        int length = 1 + numbers.below(4);
        for (int i = 0; i < length; i++) {
            word.append(sign());
        }
        return word.toString();
    }

    /** Of words that the TONGUE tells, as far as it was told without a FAULT. */
    private String text() {
        StringBuilder text = new StringBuilder();
        int length = 1 + numbers.below(numbers.below(3) + 2);
        String[] known = knownWords.isEmpty() ? new String[] {"a"} : knownWords.toArray(new String[0]);
        for (int i = 0; i < length; i++) {
            text.append(known[numbers.below(known.length)]).append(' ');
        }
        return spoilt(text);
    }

    private List<String> knownWords = new ArrayList<>();

    private String spoilt(StringBuilder text) {
        if (numbers.below(12) == 0) {
            char[] signs = " ;,/a0z9x1.".toCharArray();
            int at = numbers.below(text.length());
            char sign = signs[numbers.below(signs.length)];
            switch (numbers.below(3)) {
                case 0 -> text.setCharAt(at, sign);
                case 1 -> text.insert(at, sign);
                default -> text.deleteCharAt(at);
            }
        }
        return text.toString();
    }

    private void give(String name, String text) {
        byte[] all = text.getBytes(StandardCharsets.ISO_8859_1);
        byte[] padded = Arrays.copyOf(all, (all.length + 19) / 20 * 20);
        for (int i = 0; i < padded.length; i += 20) {
            int[] five = new int[5];
            for (int k = 0; k < 20; k++) {
                five[k / 4] = five[k / 4] << 8 | padded[i + k] & 255;
            }
            Checks.is("feed", x.feed(five[0], five[1], five[2], five[3], five[4]), model.feed(five));
        }
        log.add("\"" + text + "\"");
        String answer = call(name, Math.min(all.length, 500));
        if (name.equals("tongue") && !answer.startsWith("-")) {
            knownWords = new ArrayList<>();
            for (String word : text.split("[^a-z]+")) {
                if (!word.isEmpty()) {
                    knownWords.add(word);
                }
            }
        }
        call("fault");
    }

    private String call(String name, int... arguments) {
        String got = Checks.outcome(x, name, arguments);
        String due = Checks.outcome(model, name, arguments);
        log.add(name + Arrays.toString(arguments) + " " + got);
        if (got.equals(due)) {
            Checks.passed++;
        } else {
            Checks.failed++;
            System.out.println(name + Arrays.toString(arguments) + " answered " + got + ", due is " + due);
        }
        return got;
    }
}

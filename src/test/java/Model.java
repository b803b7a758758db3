import java.util.ArrayList;
import java.util.Arrays;
import java.util.Comparator;
import java.util.HashMap;
import java.util.List;
import java.util.Map;
import java.util.NoSuchElementException;
import java.util.TreeMap;

/**
 * The document once more, told as plainly as can be with the Java library and by trying all: what the
 * program answers is held against it. It shares no code and no shortcut with the program.
 */
final class Model {
    static final class Piece {
        final char letter;
        int left;
        int page = -1;
        int turn;

        Piece(char letter, int left) {
            this.letter = letter;
            this.left = left;
        }
    }

    record Token(char kind, String text, int at) {
    }

    record Word(String letters, int mark, int group) {
    }

    record Wanted(int text, int copies, int week, int worth, int bit) {
    }

    record Image(List<int[]> pieces, Map<Integer, Integer> pages, List<Wanted> wanted, int habit) {
    }

    static final class Fault extends Exception {
        private static final long serialVersionUID = 1L;
        final int kind;
        final int at;

        Fault(int kind, int at) {
            this.kind = kind;
            this.at = at;
        }
    }

    private List<Integer> tape = new ArrayList<>();
    private List<Piece> pieces = new ArrayList<>();
    private List<Piece> there = new ArrayList<>();
    private Map<Character, Integer> prices = new HashMap<>();
    private Map<Character, Character> likes = new HashMap<>();
    private List<String> barred = new ArrayList<>();
    private int faint;
    private List<Word> words = new ArrayList<>();
    private final List<int[]> texts = new ArrayList<>();
    private Map<Integer, Integer> pages = new TreeMap<>();
    private List<Wanted> wanted = new ArrayList<>();
    private int habit;
    private final List<Image> images = new ArrayList<>();
    private int fault = -1;

    // ---- the three texts

    int feed(int... five) {
        if (tape.size() + 20 > 500) {
            return -1;
        }
        for (int number : five) {
            tape.addAll(List.of(number >> 24 & 255, number >> 16 & 255, number >> 8 & 255, number & 255));
        }
        return tape.size();
    }

    private String cut(int n, int most) {
        illegal(n < 0 || n > tape.size() || n > most);
        StringBuilder text = new StringBuilder();
        for (int b : tape.subList(0, n)) {
            text.append((char) b);
        }
        tape = new ArrayList<>();
        fault = -1;
        return text.toString();
    }

    private static List<Token> tokens(String text) {
        List<Token> found = new ArrayList<>();
        int i = 0;
        while (i < text.length()) {
            char kind = kindOf(text.charAt(i));
            int from = i++;
            while ((kind == 'w' || kind == '0') && i < text.length() && kindOf(text.charAt(i)) == kind) {
                i++;
            }
            if (kind != ' ') {
                found.add(new Token(kind, text.substring(from, i), from));
            }
        }
        found.add(new Token('.', "", text.length()));
        return found;
    }

    private static char kindOf(char sign) {
        if (sign >= 'a' && sign <= 'z') {
            return 'w';
        }
        if (sign >= '0' && sign <= '9') {
            return '0';
        }
        return sign == '.' || sign == 'w' ? '?' : sign;
    }

    private static Token next(List<Token> tokens, char kind) throws Fault {
        Token token = tokens.get(0);
        if (token.kind != kind) {
            throw new Fault(1, token.at);
        }
        return tokens.remove(0);
    }

    private static int number(List<Token> tokens, int least, int most) throws Fault {
        Token token = next(tokens, '0');
        java.math.BigInteger value = new java.math.BigInteger(token.text);
        if (value.bitLength() > 20 || value.intValue() < least || value.intValue() > most) {
            throw new Fault(2, token.at);
        }
        return value.intValue();
    }

    private static char one(List<Token> tokens) throws Fault {
        Token token = next(tokens, 'w');
        if (token.text.length() != 1) {
            throw new Fault(2, token.at);
        }
        return token.text.charAt(0);
    }

    int kase(int n) {
        List<Token> tokens = tokens(cut(n, 500));
        List<Piece> ours = new ArrayList<>();
        List<Piece> theirs = new ArrayList<>();
        Map<Character, Integer> newPrices = new HashMap<>();
        Map<Character, Character> newLikes = new HashMap<>();
        List<String> newBarred = new ArrayList<>();
        int newFaint = 0;
        try {
            for (int clauses = 0; tokens.get(0).kind != '.'; clauses++) {
                Token name = next(tokens, 'w');
                if (!List.of("letter", "there", "price", "faint", "like", "follow").contains(name.text)) {
                    throw new Fault(1, name.at);
                }
                if (clauses == 60) {
                    throw new Fault(3, name.at);
                }
                switch (name.text) {
                    case "letter" -> tell(tokens, ours);
                    case "there" -> tell(tokens, theirs);
                    case "price" -> newPrices.put(one(tokens), number(tokens, 0, 99));
                    case "faint" -> newFaint = number(tokens, 0, 99);
                    case "like" -> newLikes.put(one(tokens), one(tokens));
                    default -> newBarred.add(number(tokens, 0, 3) + "," + number(tokens, 0, 3));
                }
                next(tokens, ';');
            }
        } catch (Fault f) {
            fault = f.at;
            return f.kind - 10;
        }
        pieces = ours;
        there = theirs;
        prices = newPrices;
        likes = newLikes;
        barred = newBarred;
        faint = newFaint;
        pages.clear();
        images.clear();
        return ours.size();
    }

    private static void tell(List<Token> tokens, List<Piece> told) throws Fault {
        char c = one(tokens);
        int before = (int) told.stream().filter(p -> p.letter == c).count();
        int more = number(tokens, 1, 12 - before);
        int left = number(tokens, 1, 400);
        for (int i = 0; i < more; i++) {
            told.add(new Piece(c, left));
        }
    }

    int tongue(int n) {
        List<Token> tokens = tokens(cut(n, 500));
        List<Word> told = new ArrayList<>();
        int group = 0;
        try {
            for (; tokens.get(0).kind != '.'; group++) {
                int members = 0;
                do {
                    if (members > 0) {
                        next(tokens, ',');
                    }
                    Token w = next(tokens, 'w');
                    if (w.text.length() > 9 || told.stream().anyMatch(o -> o.letters.equals(w.text))) {
                        throw new Fault(2, w.at);
                    }
                    if (group == 20 || members == 5 || told.size() == 60) {
                        throw new Fault(3, w.at);
                    }
                    int mark = 0;
                    if (tokens.get(0).kind == '/') {
                        next(tokens, '/');
                        mark = number(tokens, 0, 3);
                    }
                    told.add(new Word(w.text, mark, group));
                    members++;
                } while (tokens.get(0).kind == ',');
                next(tokens, ';');
            }
        } catch (Fault f) {
            fault = f.at;
            return f.kind - 10;
        }
        words = told;
        texts.clear();
        wanted.clear();
        images.clear();
        for (Piece p : pieces) {
            p.page = -1;
        }
        pages.clear();
        return told.size();
    }

    int text(int n) {
        List<Token> tokens = tokens(cut(n, 200));
        if (texts.size() == 8) {
            return -1;
        }
        List<Integer> told = new ArrayList<>();
        try {
            do {
                Token w = next(tokens, 'w');
                int number = find(w.text);
                if (number < 0) {
                    throw new Fault(2, w.at);
                }
                if (told.size() == 12) {
                    throw new Fault(3, w.at);
                }
                told.add(number);
            } while (tokens.get(0).kind != '.');
        } catch (Fault f) {
            fault = f.at;
            return f.kind - 10;
        }
        texts.add(told.stream().mapToInt(Integer::intValue).toArray());
        return texts.size() - 1;
    }

    int fault() {
        return fault;
    }

    private int find(String letters) {
        for (int i = 0; i < words.size(); i++) {
            if (words.get(i).letters.equals(letters)) {
                return i;
            }
        }
        return -1;
    }

    // ---- what is told

    private static void illegal(boolean wrong) {
        if (wrong) {
            throw new IllegalArgumentException();
        }
    }

    private int[] textOf(int text) {
        if (text < 0 || text >= texts.size()) {
            throw new NoSuchElementException();
        }
        return texts.get(text);
    }

    private Word wordOf(int word) {
        if (word < 0 || word >= words.size()) {
            throw new NoSuchElementException();
        }
        return words.get(word);
    }

    private int textOfPage(int page) {
        if (!pages.containsKey(page)) {
            throw new NoSuchElementException();
        }
        return pages.get(page);
    }

    private String spelled(int[] row) {
        StringBuilder all = new StringBuilder();
        for (int w : row) {
            all.append(words.get(w).letters);
        }
        return all.toString();
    }

    int told(int what) {
        illegal(what < 0 || what > 7);
        int groups = (int) words.stream().map(Word::group).distinct().count();
        return new int[] {pieces.size(), words.size(), texts.size(), pages.size(), wanted.size(), faint, habit, groups}[what];
    }

    private List<Piece> piecesOf(int letter) {
        return pieces.stream().filter(p -> p.letter == 'a' + letter).toList();
    }

    int letter(int letter, int what) {
        illegal(letter < 0 || letter > 25 || what < 0 || what > 7);
        List<Piece> all = piecesOf(letter);
        char c = (char) ('a' + letter);
        return new int[] {all.size(), (int) all.stream().filter(p -> p.page < 0).count(),
            all.stream().mapToInt(p -> p.left).sum(), all.stream().mapToInt(p -> p.left).max().orElse(0),
            (int) all.stream().filter(p -> p.left == 0).count(), prices.getOrDefault(c, 1),
            likes.containsKey(c) ? likes.get(c) - 'a' : -1,
            (int) there.stream().filter(p -> p.letter == c).count()}[what];
    }

    int piece(int letter, int i, int what) {
        illegal(letter < 0 || letter > 25);
        List<Piece> all = piecesOf(letter);
        if (i < 0 || i >= all.size()) {
            throw new IndexOutOfBoundsException();
        }
        illegal(what < 0 || what > 1);
        return what == 0 ? all.get(i).left : all.get(i).page;
    }

    private int price(String letters) {
        return letters.chars().map(c -> prices.getOrDefault((char) c, 1)).sum();
    }

    int word(int word, int what) {
        Word w = wordOf(word);
        illegal(what < 0 || what > 4);
        return new int[] {w.letters.length(), w.mark, w.group, price(w.letters), often(w.letters, pieces)}[what];
    }

    int at(int text, int i) {
        int[] row = textOf(text);
        return i >= 0 && i < row.length ? row[i] : -1;
    }

    int needs(int text, int letter) {
        illegal(letter < 0 || letter > 25);
        return (int) spelled(textOf(text)).chars().filter(c -> c == 'a' + letter).count();
    }

    int habit(int other) {
        illegal(other < 0 || other > 1);
        int before = habit;
        habit = other;
        return before;
    }

    // ---- setting, by really taking piece after piece

    private List<Piece> taken(String letters, int copies, List<Piece> all) {
        List<Piece> rest = new ArrayList<>(all.stream().filter(p -> p.page < 0 && p.left >= copies).toList());
        List<Piece> found = new ArrayList<>();
        Comparator<Piece> byLeft = Comparator.comparingInt(p -> habit == 0 ? p.left : -p.left);
        rest.sort(byLeft);
        for (char c : letters.toCharArray()) {
            Piece piece = rest.stream().filter(p -> p.letter == c).findFirst().orElse(null);
            if (piece == null) {
                return null;
            }
            rest.remove(piece);
            found.add(piece);
        }
        return found;
    }

    private int often(String letters, List<Piece> all) {
        int most = 0;
        for (Piece p : all) {
            if (p.left > most && taken(letters, p.left, all) != null) {
                most = p.left;
            }
        }
        return most;
    }

    private static List<Piece> copyOf(List<Piece> all) {
        List<Piece> copies = new ArrayList<>();
        for (Piece p : all) {
            Piece copy = new Piece(p.letter, p.left);
            copy.page = p.page;
            copy.turn = p.turn;
            copies.add(copy);
        }
        return copies;
    }

    int can(int text) {
        return often(spelled(textOf(text)), pieces);
    }

    int lacks(int text, int copies) {
        String letters = spelled(textOf(text));
        illegal(copies < 1 || copies > 400);
        for (char c = 'a'; c <= 'z'; c++) {
            char d = c;
            String only = letters.chars().filter(o -> o == d).collect(StringBuilder::new,
                (b, o) -> b.append((char) o), StringBuilder::append).toString();
            if (taken(only, copies, pieces) == null) {
                return c - 'a';
            }
        }
        return -1;
    }

    int set(int text, int copies) {
        String letters = spelled(textOf(text));
        illegal(copies < 1 || copies > 400);
        List<Piece> row = taken(letters, copies, pieces);
        if (row == null) {
            return -1;
        }
        int page = 0;
        while (pages.containsKey(page)) {
            page++;
        }
        if (page > 3) {
            return -2;
        }
        for (int i = 0; i < row.size(); i++) {
            row.get(i).page = page;
            row.get(i).turn = i;
        }
        pages.put(page, text);
        return page;
    }

    private List<Piece> on(int page) {
        return pieces.stream().filter(p -> p.page == page).sorted(Comparator.comparingInt(p -> p.turn)).toList();
    }

    int print(int page, int copies) {
        textOfPage(page);
        illegal(copies < 1 || copies > 400);
        if (on(page).stream().anyMatch(p -> p.left < copies)) {
            return -1;
        }
        on(page).forEach(p -> p.left -= copies);
        return (int) on(page).stream().filter(p -> p.left == 0).count();
    }

    int apart(int page) {
        textOfPage(page);
        List<Piece> row = on(page);
        row.forEach(p -> p.page = -1);
        pages.remove(page);
        return row.size();
    }

    private int[] readings(int page) {
        int[] row = textOf(pages.get(page));
        int[] read = new int[row.length];
        List<Piece> stand = on(page);
        int from = 0;
        for (int i = 0; i < row.length; i++) {
            StringBuilder seen = new StringBuilder();
            int to = from + words.get(row[i]).letters.length();
            for (Piece p : stand.subList(from, to)) {
                seen.append(p.left < faint ? likes.getOrDefault(p.letter, p.letter) : p.letter);
            }
            from = to;
            read[i] = find(seen.toString());
        }
        return read;
    }

    int page(int page, int what) {
        int text = textOfPage(page);
        illegal(what < 0 || what > 4);
        int[] read = readings(page);
        int[] row = textOf(text);
        int otherwise = 0;
        for (int i = 0; i < row.length; i++) {
            otherwise += read[i] == row[i] ? 0 : 1;
        }
        return new int[] {text, on(page).size(), (int) on(page).stream().filter(p -> p.left < faint).count(),
            on(page).stream().mapToInt(p -> p.left).min().orElse(-7), otherwise}[what];
    }

    int read(int page, int i) {
        textOfPage(page);
        int[] read = readings(page);
        return i >= 0 && i < read.length ? read[i] : -2;
    }

    // ---- wordings, by writing all of them out

    private List<int[]> rows(int text, boolean allowed) {
        List<int[]> rows = new ArrayList<>();
        rows.add(new int[0]);
        for (int told : textOf(text)) {
            List<int[]> longer = new ArrayList<>();
            for (int[] row : rows) {
                for (int w = 0; w < words.size(); w++) {
                    boolean alike = words.get(w).group == words.get(told).group;
                    boolean barredHere = allowed && row.length > 0
                        && barred.contains(words.get(row[row.length - 1]).mark + "," + words.get(w).mark);
                    if (alike && !barredHere) {
                        int[] next = Arrays.copyOf(row, row.length + 1);
                        next[row.length] = w;
                        longer.add(next);
                    }
                }
            }
            rows = longer;
        }
        return rows;
    }

    private int answer(List<int[]> rows, int i, int what) {
        if (rows.isEmpty()) {
            return -1;
        }
        int least = rows.stream().mapToInt(r -> price(spelled(r))).min().getAsInt();
        int[] first = rows.stream().filter(r -> price(spelled(r)) == least).min(Arrays::compare).get();
        return what == 0 ? least : i >= 0 && i < first.length ? first[i] : -1;
    }

    int least(int text, int i, int what) {
        textOf(text);
        illegal(what < 0 || what > 1);
        return answer(rows(text, true), i, what);
    }

    int fitting(int text, int copies, int i, int what) {
        textOf(text);
        illegal(copies < 1 || copies > 400 || what < 0 || what > 1);
        if (rows(text, false).size() > 4096) {
            return -2;
        }
        return answer(rows(text, true).stream().filter(r -> taken(spelled(r), copies, pieces) != null).toList(), i, what);
    }

    int wordings(int text) {
        return Math.min(rows(text, true).size(), 1000000);
    }

    // ---- weeks

    int want(int text, int copies, int week, int worth) {
        textOf(text);
        illegal(copies < 1 || copies > 400 || week < 0 || week > 99 || worth < 1 || worth > 999);
        if (wanted.size() == 10) {
            return -1;
        }
        wanted.add(new Wanted(text, copies, week, worth, 1 << wanted.size()));
        return wanted.size();
    }

    int forget() {
        int gone = wanted.size();
        wanted.clear();
        return gone;
    }

    private boolean pressed(Wanted w, List<Piece> all) {
        List<Piece> row = taken(spelled(texts.get(w.text)), w.copies, all);
        if (row != null) {
            row.forEach(p -> p.left -= w.copies);
        }
        return row != null;
    }

    private List<Wanted> inOrder(int ahead) {
        return wanted.stream().filter(w -> w.week < ahead).sorted(Comparator.comparingInt(Wanted::week)).toList();
    }

    int most(int what) {
        illegal(what < 0 || what > 2);
        int best = -1;
        int bits = 0;
        int sets = 0;
        for (int set = 0; set < 1 << wanted.size(); set++) {
            List<Piece> all = copyOf(pieces);
            int worth = 0;
            for (Wanted w : inOrder(100)) {
                if ((set & w.bit) != 0) {
                    worth = worth < 0 || !pressed(w, all) ? -1 : worth + w.worth;
                }
            }
            sets += worth < 0 ? 0 : 1;
            if (worth > best) {
                best = worth;
                bits = set;
            }
        }
        return new int[] {best, bits, sets}[what];
    }

    private int[] greedily(int ahead, List<Piece> all) {
        int[] sums = new int[2];
        for (Wanted w : inOrder(ahead)) {
            if (pressed(w, all)) {
                sums[0] += w.worth;
                sums[1] |= w.bit;
            }
        }
        return sums;
    }

    int greedy(int what) {
        illegal(what < 0 || what > 1);
        return greedily(100, copyOf(pieces))[what];
    }

    int bound() {
        int least = Integer.MAX_VALUE;
        for (int letter = 0; letter < 26; letter++) {
            int c = letter;
            long rest = pieces.stream().filter(p -> p.letter == 'a' + c && p.page < 0).mapToInt(p -> p.left).sum();
            List<long[]> loads = new ArrayList<>();
            int sum = 0;
            for (Wanted w : wanted) {
                long prints = (long) needs(w.text, letter) * w.copies;
                if (prints == 0) {
                    sum += w.worth;
                } else {
                    loads.add(new long[] {w.worth, prints});
                }
            }
            loads.sort((x, y) -> Long.compare(y[0] * x[1], x[0] * y[1]));
            for (long[] load : loads) {
                long used = Math.min(rest, load[1]);
                sum += (int) (load[0] * used / load[1]);
                rest -= used;
            }
            least = Math.min(least, sum);
        }
        return least;
    }

    int said(int word, int week) {
        Word w = wordOf(word);
        illegal(week < 0 || week > 100);
        List<Piece> all = copyOf(pieces);
        greedily(week, all);
        return often(w.letters, all);
    }

    int lost(int week) {
        illegal(week < 0 || week > 100);
        int found = 0;
        for (int w = 0; w < words.size(); w++) {
            found += said(w, week) == 0 ? 1 : 0;
        }
        return found;
    }

    int ends(int word) {
        wordOf(word);
        for (int week = 0; week <= 100; week++) {
            if (said(word, week) == 0) {
                return week;
            }
        }
        return -1;
    }

    // ---- one piece more, or another

    int exchange(int text) {
        String letters = spelled(textOf(text));
        int most = often(letters, pieces);
        int best = -1;
        for (int ours = 0; ours < 26; ours++) {
            for (int theirs = 0; theirs < 26; theirs++) {
                int o = ours;
                int t = theirs;
                Piece given = pieces.stream().filter(p -> p.letter == 'a' + o && p.page < 0)
                    .min(Comparator.comparingInt(p -> p.left)).orElse(null);
                Piece got = there.stream().filter(p -> p.letter == 'a' + t)
                    .min(Comparator.comparingInt(p -> -p.left)).orElse(null);
                if (given == null || got == null) {
                    continue;
                }
                List<Piece> all = new ArrayList<>(pieces);
                all.remove(given);
                all.add(got);
                if (often(letters, all) > most) {
                    most = often(letters, all);
                    best = 100 * ours + theirs;
                }
            }
        }
        return best;
    }

    int cast(int text, int prints) {
        String letters = spelled(textOf(text));
        illegal(prints < 1 || prints > 400);
        int most = often(letters, pieces);
        int best = -1;
        for (int letter = 0; letter < 26; letter++) {
            List<Piece> all = new ArrayList<>(pieces);
            all.add(new Piece((char) ('a' + letter), prints));
            if (often(letters, all) > most) {
                most = often(letters, all);
                best = letter;
            }
        }
        return best;
    }

    int together(int copies) {
        illegal(copies < 1 || copies > 400);
        int best = 0;
        for (int set = 0; set < 1 << texts.size(); set++) {
            List<Piece> all = copyOf(pieces);
            boolean stand = true;
            for (int t = 0; t < texts.size(); t++) {
                if (stand && (set >> t & 1) == 1) {
                    List<Piece> row = taken(spelled(texts.get(t)), copies, all);
                    stand = row != null;
                    if (stand) {
                        row.forEach(p -> p.page = 9);
                    }
                }
            }
            if (stand && Integer.bitCount(set) > Integer.bitCount(best)) {
                best = set;
            }
        }
        return best;
    }

    // ---- images

    int image() {
        if (images.size() == 3) {
            return -1;
        }
        List<int[]> all = pieces.stream().map(p -> new int[] {p.left, p.page, p.turn}).toList();
        images.add(new Image(all, new TreeMap<>(pages), new ArrayList<>(wanted), habit));
        return images.size();
    }

    int restore() {
        if (images.isEmpty()) {
            return -1;
        }
        Image image = images.remove(images.size() - 1);
        for (int i = 0; i < pieces.size(); i++) {
            pieces.get(i).left = image.pieces.get(i)[0];
            pieces.get(i).page = image.pieces.get(i)[1];
            pieces.get(i).turn = image.pieces.get(i)[2];
        }
        pages = new TreeMap<>(image.pages);
        wanted = new ArrayList<>(image.wanted);
        habit = image.habit;
        return images.size();
    }

    int count(int what) {
        return what == 0 ? images.size() : what == 1 ? tape.size() : -1;
    }
}

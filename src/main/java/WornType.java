import java.util.NoSuchElementException;

/**
 * A press with letters of soft lead that wear out, a tongue of words with others that mean the same,
 * and the texts that are set with them, until nothing can be set any more.
 *
 * <p>All rows are made once, in the constructors: a run of calls makes no object but its exceptions.
 */
public final class WornType {
    public static final int NONE = -1;

    private static final int LETTERS = 26;
    private static final int EACH = 12;
    private static final int ALL = LETTERS * EACH;
    private static final int MARKS = 4;
    private static final int HABITS = 2;
    private static final int PAGES = 4;
    private static final int IMAGES = 3;
    private static final int TEXTS = 8;
    private static final int ROW = 12;
    private static final int WORDS = 60;
    private static final int GROUPS = 20;
    private static final int MEMBERS = 5;
    private static final int SPELLED = 9;
    private static final int CLAUSES = 60;
    private static final int WANTED = 10;
    private static final int BYTES = 500;
    private static final int FEED = 20;
    private static final int TEXT_BYTES = 200;
    private static final int COPIES = 400;
    private static final int WORTH = 999;
    private static final int WEEKS = 100;
    private static final int ROWS_TRIED = 4096;
    private static final int WORDINGS_TOLD = 1000000;
    private static final int NO_BOUND = 1000000;

    private final Tape tape;
    private final Lead lead;
    private final Lead nextLead;
    private final Tongue speech;
    private final Tongue nextSpeech;
    private final Texts texts;
    private final State state;
    private final State[] images;
    private final Stock stock;
    private final Pages pages;
    private final Rows rows;
    private final Weeks weeks;
    private final Trade trade;
    private final int[] need;
    private int imagesKept;

    public WornType() {
        tape = new Tape();
        lead = new Lead();
        nextLead = new Lead();
        speech = new Tongue();
        nextSpeech = new Tongue();
        texts = new Texts();
        state = new State();
        images = new State[IMAGES];
        for (int i = 0; i < images.length; i++) {
            images[i] = new State();
        }
        stock = new Stock(lead, state);
        pages = new Pages(lead, speech, texts, state, stock);
        rows = new Rows(lead, speech, texts, state, stock);
        weeks = new Weeks(speech, texts, state, stock);
        trade = new Trade(lead, texts, state, stock);
        need = new int[LETTERS];
        imagesKept = 0;
    }

    public int feed(int a, int b, int c, int d, int e) {
        if (tape.size > BYTES - FEED) {
            return NONE;
        }
        tape.push(a);
        tape.push(b);
        tape.push(c);
        tape.push(d);
        tape.push(e);
        return tape.size;
    }

    public int kase(int n) throws IllegalArgumentException {
        refuse(n < 0 || n > tape.size);
        tape.begin(n);
        if (!nextLead.fill(tape)) {
            return tape.fault - 10;
        }
        lead.become(nextLead);
        state.lay(lead);
        imagesKept = 0;
        return stock.piecesOfAll();
    }

    public int tongue(int n) throws IllegalArgumentException {
        refuse(n < 0 || n > tape.size);
        tape.begin(n);
        if (!nextSpeech.fill(tape)) {
            return tape.fault - 10;
        }
        speech.become(nextSpeech);
        texts.size = 0;
        state.wanted = 0;
        state.clearPages();
        imagesKept = 0;
        return speech.size;
    }

    public int text(int n) throws IllegalArgumentException {
        refuse(n < 0 || n > tape.size || n > TEXT_BYTES);
        tape.begin(n);
        if (texts.size >= TEXTS) {
            return -1;
        }
        if (!texts.fill(tape, speech)) {
            return tape.fault - 10;
        }
        return texts.size - 1;
    }

    public int fault() {
        return tape.place;
    }

    public int told(int what) throws IllegalArgumentException {
        switch (what) {
            case 0:
                return stock.piecesOfAll();
            case 1:
                return speech.size;
            case 2:
                return texts.size;
            case 3:
                return pages.standing();
            case 4:
                return state.wanted;
            case 5:
                return lead.faint;
            case 6:
                return state.habit;
            case 7:
                return speech.groups;
            default:
                throw new IllegalArgumentException("what is told is 0 to 7");
        }
    }

    public int letter(int letter, int what) throws IllegalArgumentException {
        refuse(letter < 0 || letter >= LETTERS);
        switch (what) {
            case 0:
                return stock.pieces(letter);
            case 1:
                return stock.inCase(letter);
            case 2:
                return stock.leftOfAll(letter);
            case 3:
                return stock.mostLeft(letter);
            case 4:
                return stock.wornOut(letter);
            case 5:
                return look(lead.prices, letter);
            case 6:
                return look(lead.likes, letter);
            case 7:
                return look(lead.therePieces, letter);
            default:
                throw new IllegalArgumentException("of a letter 0 to 7 is told");
        }
    }

    public int piece(int letter, int i, int what) throws IndexOutOfBoundsException, IllegalArgumentException {
        refuse(letter < 0 || letter >= LETTERS);
        if (i < 0 || i >= stock.pieces(letter)) {
            throw new IndexOutOfBoundsException("no such piece");
        }
        refuse(what < 0 || what > 1);
        return look(what == 0 ? state.left : state.place, letter * EACH + i);
    }

    public int word(int word, int what) throws NoSuchElementException, IllegalArgumentException {
        miss(!speech.has(word));
        switch (what) {
            case 0:
                return look(speech.lengths, word);
            case 1:
                return look(speech.marks, word);
            case 2:
                return look(speech.groupOf, word);
            case 3:
                return rows.priceOf(word);
            case 4:
                speech.spell(word, need);
                return stock.often(need, state.left);
            default:
                throw new IllegalArgumentException("of a word 0 to 4 is told");
        }
    }

    public int at(int text, int i) throws NoSuchElementException {
        miss(!texts.has(text));
        return texts.wordAt(text, i);
    }

    public int needs(int text, int letter) throws NoSuchElementException, IllegalArgumentException {
        refuse(letter < 0 || letter >= LETTERS);
        miss(!texts.has(text));
        return texts.needOf(text, letter);
    }

    public int habit(int habit) throws IllegalArgumentException {
        refuse(habit < 0 || habit >= HABITS);
        int before = state.habit;
        state.habit = habit;
        return before;
    }

    public int can(int text) throws NoSuchElementException {
        miss(!texts.has(text));
        texts.spell(text, need);
        return stock.often(need, state.left);
    }

    public int lacks(int text, int copies) throws NoSuchElementException, IllegalArgumentException {
        miss(!texts.has(text));
        refuseCopies(copies);
        texts.spell(text, need);
        return stock.lacking(need, copies, state.left);
    }

    public int set(int text, int copies) throws NoSuchElementException, IllegalArgumentException {
        miss(!texts.has(text));
        refuseCopies(copies);
        return pages.stand(text, copies);
    }

    public int print(int page, int copies) throws NoSuchElementException, IllegalArgumentException {
        miss(!pages.stands(page));
        refuseCopies(copies);
        return pages.press(page, copies);
    }

    public int apart(int page) throws NoSuchElementException {
        miss(!pages.stands(page));
        int pieces = pages.piecesOn(page);
        state.clearPage(page);
        return pieces;
    }

    public int page(int page, int what) throws NoSuchElementException, IllegalArgumentException {
        miss(!pages.stands(page));
        switch (what) {
            case 0:
                return look(state.pageTexts, page);
            case 1:
                return pages.piecesOn(page);
            case 2:
                return pages.faintOn(page);
            case 3:
                return pages.leastLeftOn(page);
            case 4:
                return pages.misreadOn(page);
            default:
                throw new IllegalArgumentException("of a page 0 to 4 is told");
        }
    }

    public int read(int page, int i) throws NoSuchElementException {
        miss(!pages.stands(page));
        if (texts.wordAt(look(state.pageTexts, page), i) == NONE) {
            return -2;
        }
        return pages.readAs(page, i);
    }

    public int least(int text, int i, int what) throws NoSuchElementException, IllegalArgumentException {
        miss(!texts.has(text));
        refuse(what < 0 || what > 1);
        rows.findLeast(text);
        return rows.found(text, i, what);
    }

    public int fitting(int text, int copies, int i, int what) throws NoSuchElementException, IllegalArgumentException {
        miss(!texts.has(text));
        refuseCopies(copies);
        refuse(what < 0 || what > 1);
        if (rows.tooMany(text)) {
            return -2;
        }
        rows.findFitting(text, copies);
        return rows.found(text, i, what);
    }

    public int wordings(int text) throws NoSuchElementException {
        miss(!texts.has(text));
        return Math.min(rows.howMany(text), WORDINGS_TOLD);
    }

    public int want(int text, int copies, int week, int worth) throws NoSuchElementException, IllegalArgumentException {
        miss(!texts.has(text));
        refuseCopies(copies);
        refuse(week < 0 || week >= WEEKS);
        refuse(worth < 1 || worth > WORTH);
        if (state.wanted >= WANTED) {
            return -1;
        }
        state.addWanted(text, copies, week, worth);
        return state.wanted;
    }

    public int forget() {
        int gone = state.wanted;
        state.wanted = 0;
        return gone;
    }

    public int most(int what) throws IllegalArgumentException {
        refuse(what < 0 || what > 2);
        weeks.findMost();
        if (what == 2) {
            return weeks.sets;
        }
        return what == 0 ? weeks.worth : weeks.bits;
    }

    public int greedy(int what) throws IllegalArgumentException {
        refuse(what < 0 || what > 1);
        weeks.printGreedily(WEEKS);
        return what == 0 ? weeks.worth : weeks.bits;
    }

    public int bound() {
        return weeks.leastBound();
    }

    public int said(int word, int week) throws NoSuchElementException, IllegalArgumentException {
        miss(!speech.has(word));
        refuse(week < 0 || week > WEEKS);
        weeks.printGreedily(week);
        return weeks.stillSaid(word);
    }

    public int lost(int week) throws IllegalArgumentException {
        refuse(week < 0 || week > WEEKS);
        weeks.printGreedily(week);
        return weeks.wordsLost();
    }

    public int ends(int word) throws NoSuchElementException {
        miss(!speech.has(word));
        return weeks.firstLost(word);
    }

    public int exchange(int text) throws NoSuchElementException {
        miss(!texts.has(text));
        return trade.bestExchange(text);
    }

    public int cast(int text, int prints) throws NoSuchElementException, IllegalArgumentException {
        miss(!texts.has(text));
        refuseCopies(prints);
        return trade.bestCast(text, prints);
    }

    public int together(int copies) throws IllegalArgumentException {
        refuseCopies(copies);
        return trade.mostAtOnce(copies);
    }

    public int image() {
        if (imagesKept < 0 || imagesKept >= images.length) {
            return -1;
        }
        images[imagesKept].become(state);
        imagesKept++;
        return imagesKept;
    }

    public int restore() {
        int latest = imagesKept - 1;
        if (latest < 0 || latest >= images.length) {
            return -1;
        }
        state.become(images[latest]);
        imagesKept = latest;
        return imagesKept;
    }

    public int count(int what) {
        if (what == 0) {
            return imagesKept;
        }
        return what == 1 ? tape.size : NONE;
    }

    private static void refuse(boolean wrong) {
        if (wrong) {
            throw new IllegalArgumentException("out of its bounds");
        }
    }

    private static void refuseCopies(int copies) {
        refuse(copies < 1 || copies > COPIES);
    }

    private static void miss(boolean missing) {
        if (missing) {
            throw new NoSuchElementException("no such word, text or page");
        }
    }

    // Every index that no loop bounds by its row's own length goes through look and put,
    // so that the machine has nothing to throw.

    private static int look(int[] row, int i) {
        return i >= 0 && i < row.length ? row[i] : 0;
    }

    private static void put(int[] row, int i, int value) {
        if (i >= 0 && i < row.length) {
            row[i] = value;
        }
    }

    private static void fillRow(int[] row, int value) {
        for (int i = 0; i < row.length; i++) {
            row[i] = value;
        }
    }

    private static void copyRow(int[] from, int[] to) {
        for (int i = 0; i < from.length && i < to.length; i++) {
            to[i] = from[i];
        }
    }

    /** The TAPE, and the reading of one text from its beginning, with that text's first FAULT. */
    private static final class Tape {
        private static final int CANNOT_STAND = 1;
        private static final int NONE_SUCH = 2;
        private static final int TOO_MANY = 3;
        private static final int BLANK = 32;
        private static final int TOO_BIG = 1000000;

        private final int[] bytes;
        private final int[] spelled;
        private int size;
        private int end;
        private int here;
        private int start;
        private int fault;
        private int place;

        Tape() {
            bytes = new int[BYTES];
            spelled = new int[SPELLED];
            place = NONE;
        }

        void push(int number) {
            for (int shift = 24; shift >= 0; shift -= 8) {
                put(bytes, size, number >>> shift & 255);
                size++;
            }
        }

        /** The TAPE is empty from now on; the bytes of the text still lie there while it is read. */
        void begin(int n) {
            size = 0;
            end = n;
            here = 0;
            start = 0;
            fault = 0;
            place = NONE;
        }

        boolean over() {
            skipBlanks();
            return here >= end;
        }

        boolean takeWord() {
            skipBlanks();
            for (int i = 0; here < end && isSmall(look(bytes, here)); i++) {
                put(spelled, i, look(bytes, here) - 'a');
                here++;
            }
            return here > start || fail(CANNOT_STAND);
        }

        int wordLength() {
            return here - start;
        }

        boolean wordIs(String name) {
            if (wordLength() != name.length()) {
                return false;
            }
            for (int i = 0; i < name.length(); i++) {
                if (look(bytes, start + i) != name.charAt(i)) {
                    return false;
                }
            }
            return true;
        }

        int takeLetter() {
            if (!takeWord()) {
                return NONE;
            }
            if (wordLength() > 1) {
                fail(NONE_SUCH);
                return NONE;
            }
            return look(spelled, 0);
        }

        int takeNumber(int least, int most) {
            skipBlanks();
            int value = 0;
            for (; here < end && isDigit(look(bytes, here)); here++) {
                value = Math.min(value * 10 + look(bytes, here) - '0', TOO_BIG);
            }
            if (here == start) {
                fail(CANNOT_STAND);
                return NONE;
            }
            if (value < least || value > most) {
                fail(NONE_SUCH);
                return NONE;
            }
            return value;
        }

        boolean takeSign(int sign) {
            skipBlanks();
            if (here >= end || look(bytes, here) != sign) {
                return false;
            }
            here++;
            return true;
        }

        boolean needSign(int sign) {
            return takeSign(sign) || fail(CANNOT_STAND);
        }

        /** Answers false, so that a reader can fail and leave in one line. */
        boolean fail(int kind) {
            fault = kind;
            place = start;
            return false;
        }

        private void skipBlanks() {
            while (here < end && look(bytes, here) == BLANK) {
                here++;
            }
            start = here;
        }

        private static boolean isSmall(int sign) {
            return sign >= 'a' && sign <= 'z';
        }

        private static boolean isDigit(int sign) {
            return sign >= '0' && sign <= '9';
        }
    }

    /** What a CASE tells: the PIECES as they were told, the other town's, and how letters look and cost. */
    private static final class Lead {
        private static final int FAINTEST = 99;
        private static final int DEAREST = 99;

        private final int[] pieces;
        private final int[] prints;
        private final int[] therePieces;
        private final int[] therePrints;
        private final int[] prices;
        private final int[] likes;
        private final int[] barred;
        private int faint;

        Lead() {
            pieces = new int[LETTERS];
            prints = new int[ALL];
            therePieces = new int[LETTERS];
            therePrints = new int[ALL];
            prices = new int[LETTERS];
            likes = new int[LETTERS];
            barred = new int[MARKS];
            clear();
        }

        void become(Lead other) {
            copyRow(other.pieces, pieces);
            copyRow(other.prints, prints);
            copyRow(other.therePieces, therePieces);
            copyRow(other.therePrints, therePrints);
            copyRow(other.prices, prices);
            copyRow(other.likes, likes);
            copyRow(other.barred, barred);
            faint = other.faint;
        }

        int mostThere(int letter) {
            int most = 0;
            for (int i = 0; i < look(therePieces, letter); i++) {
                most = Math.max(most, look(therePrints, letter * EACH + i));
            }
            return most;
        }

        boolean mayFollow(int mark, int next) {
            return (look(barred, mark) >> next & 1) == 0;
        }

        boolean fill(Tape tape) {
            clear();
            for (int clauses = 0; clauses <= CLAUSES; clauses++) {
                if (tape.over()) {
                    return true;
                }
                if (!fillClause(tape, clauses) || !tape.needSign(';')) {
                    return false;
                }
            }
            return false;
        }

        private void clear() {
            fillRow(pieces, 0);
            fillRow(prints, 0);
            fillRow(therePieces, 0);
            fillRow(therePrints, 0);
            fillRow(prices, 1);
            fillRow(likes, NONE);
            fillRow(barred, 0);
            faint = 0;
        }

        private boolean fillClause(Tape tape, int before) {
            if (!tape.takeWord()) {
                return false;
            }
            if (!namesClause(tape)) {
                return tape.fail(Tape.CANNOT_STAND);
            }
            if (before >= CLAUSES) {
                return tape.fail(Tape.TOO_MANY);
            }
            if (tape.wordIs("letter")) {
                return fillPieces(tape, pieces, prints);
            }
            if (tape.wordIs("there")) {
                return fillPieces(tape, therePieces, therePrints);
            }
            if (tape.wordIs("price")) {
                return fillPrice(tape);
            }
            if (tape.wordIs("faint")) {
                return fillFaint(tape);
            }
            return tape.wordIs("like") ? fillLike(tape) : fillFollow(tape);
        }

        private static boolean namesClause(Tape tape) {
            return tape.wordIs("letter") || tape.wordIs("there") || tape.wordIs("price")
                || tape.wordIs("faint") || tape.wordIs("like") || tape.wordIs("follow");
        }

        private static boolean fillPieces(Tape tape, int[] counts, int[] told) {
            int letter = tape.takeLetter();
            if (letter == NONE) {
                return false;
            }
            int before = look(counts, letter);
            int more = tape.takeNumber(1, EACH - before);
            if (more == NONE) {
                return false;
            }
            int left = tape.takeNumber(1, COPIES);
            if (left == NONE) {
                return false;
            }
            for (int i = before; i < before + more; i++) {
                put(told, letter * EACH + i, left);
            }
            put(counts, letter, before + more);
            return true;
        }

        private boolean fillPrice(Tape tape) {
            int letter = tape.takeLetter();
            if (letter == NONE) {
                return false;
            }
            int price = tape.takeNumber(0, DEAREST);
            if (price == NONE) {
                return false;
            }
            put(prices, letter, price);
            return true;
        }

        private boolean fillFaint(Tape tape) {
            int least = tape.takeNumber(0, FAINTEST);
            if (least == NONE) {
                return false;
            }
            faint = least;
            return true;
        }

        private boolean fillLike(Tape tape) {
            int letter = tape.takeLetter();
            if (letter == NONE) {
                return false;
            }
            int other = tape.takeLetter();
            if (other == NONE) {
                return false;
            }
            put(likes, letter, other);
            return true;
        }

        private boolean fillFollow(Tape tape) {
            int mark = tape.takeNumber(0, MARKS - 1);
            if (mark == NONE) {
                return false;
            }
            int next = tape.takeNumber(0, MARKS - 1);
            if (next == NONE) {
                return false;
            }
            put(barred, mark, look(barred, mark) | 1 << next);
            return true;
        }
    }

    /** The WORDS; those of one GROUP stand one behind the other. */
    private static final class Tongue {
        private final int[] letters;
        private final int[] lengths;
        private final int[] marks;
        private final int[] groupOf;
        private final int[] firsts;
        private final int[] members;
        private int size;
        private int groups;

        Tongue() {
            letters = new int[WORDS * SPELLED];
            lengths = new int[WORDS];
            marks = new int[WORDS];
            groupOf = new int[WORDS];
            firsts = new int[GROUPS];
            members = new int[GROUPS];
        }

        void become(Tongue other) {
            copyRow(other.letters, letters);
            copyRow(other.lengths, lengths);
            copyRow(other.marks, marks);
            copyRow(other.groupOf, groupOf);
            copyRow(other.firsts, firsts);
            copyRow(other.members, members);
            size = other.size;
            groups = other.groups;
        }

        boolean has(int word) {
            return word >= 0 && word < size;
        }

        int letterAt(int word, int i) {
            return look(letters, word * SPELLED + i);
        }

        int firstLike(int word) {
            return look(firsts, look(groupOf, word));
        }

        int membersLike(int word) {
            return look(members, look(groupOf, word));
        }

        void spell(int word, int[] need) {
            fillRow(need, 0);
            countInto(word, need);
        }

        void countInto(int word, int[] need) {
            int length = look(lengths, word);
            for (int i = 0; i < length; i++) {
                int letter = letterAt(word, i);
                put(need, letter, look(need, letter) + 1);
            }
        }

        int find(int[] spelled, int length) {
            for (int word = 0; word < size; word++) {
                if (look(lengths, word) == length && isSpelled(word, spelled, length)) {
                    return word;
                }
            }
            return NONE;
        }

        boolean fill(Tape tape) {
            size = 0;
            groups = 0;
            for (int i = 0; i <= GROUPS; i++) {
                if (tape.over()) {
                    return true;
                }
                if (!fillGroup(tape)) {
                    return false;
                }
            }
            return false;
        }

        private boolean isSpelled(int word, int[] spelled, int length) {
            for (int i = 0; i < length; i++) {
                if (letterAt(word, i) != look(spelled, i)) {
                    return false;
                }
            }
            return true;
        }

        private boolean fillGroup(Tape tape) {
            int first = size;
            for (int told = 0; told <= MEMBERS; told++) {
                if (!fillWord(tape, told)) {
                    return false;
                }
                if (!tape.takeSign(',')) {
                    put(firsts, groups, first);
                    put(members, groups, size - first);
                    groups++;
                    return tape.needSign(';');
                }
            }
            return false;
        }

        private boolean fillWord(Tape tape, int before) {
            if (!tape.takeWord()) {
                return false;
            }
            int length = tape.wordLength();
            if (length > SPELLED || find(tape.spelled, length) != NONE) {
                return tape.fail(Tape.NONE_SUCH);
            }
            if (groups >= GROUPS || before >= MEMBERS || size >= WORDS) {
                return tape.fail(Tape.TOO_MANY);
            }
            for (int i = 0; i < length; i++) {
                put(letters, size * SPELLED + i, look(tape.spelled, i));
            }
            int mark = tape.takeSign('/') ? tape.takeNumber(0, MARKS - 1) : 0;
            if (mark == NONE) {
                return false;
            }
            put(lengths, size, length);
            put(marks, size, mark);
            put(groupOf, size, groups);
            size++;
            return true;
        }
    }

    /** The TEXTS, by the numbers of their WORDS, and how many of each letter they need. */
    private static final class Texts {
        private final int[] words;
        private final int[] lengths;
        private final int[] needs;
        private final int[] counted;
        private int size;

        Texts() {
            words = new int[TEXTS * ROW];
            lengths = new int[TEXTS];
            needs = new int[TEXTS * LETTERS];
            counted = new int[LETTERS];
        }

        boolean has(int text) {
            return text >= 0 && text < size;
        }

        int lengthOf(int text) {
            return look(lengths, text);
        }

        int wordAt(int text, int i) {
            return i >= 0 && i < lengthOf(text) ? look(words, text * ROW + i) : NONE;
        }

        int needOf(int text, int letter) {
            return look(needs, text * LETTERS + letter);
        }

        void spell(int text, int[] need) {
            for (int letter = 0; letter < need.length; letter++) {
                need[letter] = needOf(text, letter);
            }
        }

        /** A TEXT with a FAULT leaves its words in a place that no number tells of. */
        boolean fill(Tape tape, Tongue tongue) {
            for (int i = 0; i <= ROW; i++) {
                if (tape.over()) {
                    return i > 0 ? close(tongue, i) : tape.fail(Tape.CANNOT_STAND);
                }
                if (!tape.takeWord()) {
                    return false;
                }
                int word = tongue.find(tape.spelled, tape.wordLength());
                if (word == NONE) {
                    return tape.fail(Tape.NONE_SUCH);
                }
                if (i >= ROW) {
                    return tape.fail(Tape.TOO_MANY);
                }
                put(words, size * ROW + i, word);
            }
            return false;
        }

        private boolean close(Tongue tongue, int length) {
            fillRow(counted, 0);
            for (int i = 0; i < length; i++) {
                tongue.countInto(look(words, size * ROW + i), counted);
            }
            for (int letter = 0; letter < counted.length; letter++) {
                put(needs, size * LETTERS + letter, counted[letter]);
            }
            put(lengths, size, length);
            size++;
            return true;
        }
    }

    /** All that an IMAGE keeps: the PIECES, where they are, the PAGES, what is WANTED, the HABIT. */
    private static final class State {
        private final int[] left;
        private final int[] place;
        private final int[] rank;
        private final int[] pageTexts;
        private final int[] wantTexts;
        private final int[] wantCopies;
        private final int[] wantWeeks;
        private final int[] wantWorths;
        private int wanted;
        private int habit;

        State() {
            left = new int[ALL];
            place = new int[ALL];
            rank = new int[ALL];
            pageTexts = new int[PAGES];
            wantTexts = new int[WANTED];
            wantCopies = new int[WANTED];
            wantWeeks = new int[WANTED];
            wantWorths = new int[WANTED];
            clearPages();
        }

        void become(State other) {
            copyRow(other.left, left);
            copyRow(other.place, place);
            copyRow(other.rank, rank);
            copyRow(other.pageTexts, pageTexts);
            copyRow(other.wantTexts, wantTexts);
            copyRow(other.wantCopies, wantCopies);
            copyRow(other.wantWeeks, wantWeeks);
            copyRow(other.wantWorths, wantWorths);
            wanted = other.wanted;
            habit = other.habit;
        }

        void lay(Lead lead) {
            copyRow(lead.prints, left);
            clearPages();
        }

        void clearPages() {
            fillRow(place, NONE);
            fillRow(pageTexts, NONE);
        }

        void clearPage(int page) {
            for (int piece = 0; piece < place.length; piece++) {
                if (place[piece] == page) {
                    place[piece] = NONE;
                }
            }
            put(pageTexts, page, NONE);
        }

        void addWanted(int text, int copies, int week, int worth) {
            put(wantTexts, wanted, text);
            put(wantCopies, wanted, copies);
            put(wantWeeks, wanted, week);
            put(wantWorths, wanted, worth);
            wanted++;
        }
    }

    /**
     * What the PIECES in the CASE allow. What is LEFT of them is handed in, for the WEEKS ask what
     * would be, with a row of their own.
     */
    private static final class Stock {
        private final Lead lead;
        private final State state;

        Stock(Lead lead, State state) {
            this.lead = lead;
            this.state = state;
        }

        int pieces(int letter) {
            return look(lead.pieces, letter);
        }

        int piecesOfAll() {
            int found = 0;
            for (int letter = 0; letter < LETTERS; letter++) {
                found += pieces(letter);
            }
            return found;
        }

        int inCase(int letter) {
            return ready(letter, 0, state.left);
        }

        int leftOfAll(int letter) {
            int sum = 0;
            for (int i = 0; i < pieces(letter); i++) {
                sum += look(state.left, letter * EACH + i);
            }
            return sum;
        }

        int leftInCase(int letter) {
            int sum = 0;
            for (int i = 0; i < pieces(letter); i++) {
                int piece = letter * EACH + i;
                sum += lies(piece) ? look(state.left, piece) : 0;
            }
            return sum;
        }

        int mostLeft(int letter) {
            int most = 0;
            for (int i = 0; i < pieces(letter); i++) {
                most = Math.max(most, look(state.left, letter * EACH + i));
            }
            return most;
        }

        int wornOut(int letter) {
            int found = 0;
            for (int i = 0; i < pieces(letter); i++) {
                found += look(state.left, letter * EACH + i) == 0 ? 1 : 0;
            }
            return found;
        }

        /** How many PIECES in the CASE have no fewer LEFT than copies. */
        int ready(int letter, int copies, int[] left) {
            int found = 0;
            for (int i = 0; i < pieces(letter); i++) {
                int piece = letter * EACH + i;
                found += lies(piece) && look(left, piece) >= copies ? 1 : 0;
            }
            return found;
        }

        int lacking(int[] need, int copies, int[] left) {
            for (int letter = 0; letter < need.length; letter++) {
                if (need[letter] > 0 && ready(letter, copies, left) < need[letter]) {
                    return letter;
                }
            }
            return NONE;
        }

        /** The most copies for which so many PIECES of a letter will do. */
        int reach(int letter, int need, int[] left) {
            if (need <= 0) {
                return NO_BOUND;
            }
            int most = 0;
            for (int i = 0; i < pieces(letter); i++) {
                int piece = letter * EACH + i;
                int copies = look(left, piece);
                if (lies(piece) && copies > most && ready(letter, copies, left) >= need) {
                    most = copies;
                }
            }
            return most;
        }

        int often(int[] need, int[] left) {
            int most = NO_BOUND;
            for (int letter = 0; letter < need.length; letter++) {
                most = Math.min(most, reach(letter, need[letter], left));
            }
            return most;
        }

        /** The next PIECE that the HABIT takes; a bit of taken for each that it took before. */
        int choose(int letter, int copies, int[] left, int taken) {
            int chosen = NONE;
            for (int i = 0; i < pieces(letter); i++) {
                int piece = letter * EACH + i;
                int prints = look(left, piece);
                if ((taken >> i & 1) == 0 && lies(piece) && prints >= copies
                        && (chosen == NONE || comesFirst(prints, look(left, chosen)))) {
                    chosen = piece;
                }
            }
            return chosen;
        }

        /** SET, printed and TAKEN APART in one: only what is LEFT changes. */
        void wear(int[] need, int copies, int[] left) {
            for (int letter = 0; letter < need.length; letter++) {
                int taken = 0;
                for (int i = 0; i < need[letter]; i++) {
                    int piece = choose(letter, copies, left, taken);
                    if (piece == NONE) {
                        return;
                    }
                    taken |= 1 << piece - letter * EACH;
                    put(left, piece, look(left, piece) - copies);
                }
            }
        }

        private boolean lies(int piece) {
            return look(state.place, piece) == NONE;
        }

        private boolean comesFirst(int prints, int others) {
            return state.habit == 0 ? prints < others : prints > others;
        }
    }

    /** The PAGES that stand. */
    private static final class Pages {
        private final Lead lead;
        private final Tongue tongue;
        private final Texts texts;
        private final State state;
        private final Stock stock;
        private final int[] need;
        private final int[] seen;
        private final int[] spelled;

        Pages(Lead lead, Tongue tongue, Texts texts, State state, Stock stock) {
            this.lead = lead;
            this.tongue = tongue;
            this.texts = texts;
            this.state = state;
            this.stock = stock;
            need = new int[LETTERS];
            seen = new int[LETTERS];
            spelled = new int[SPELLED];
        }

        boolean stands(int page) {
            return page >= 0 && page < PAGES && look(state.pageTexts, page) != NONE;
        }

        int standing() {
            int found = 0;
            for (int page = 0; page < PAGES; page++) {
                found += stands(page) ? 1 : 0;
            }
            return found;
        }

        int stand(int text, int copies) {
            texts.spell(text, need);
            if (stock.lacking(need, copies, state.left) != NONE) {
                return -1;
            }
            int page = firstFree();
            if (page == NONE) {
                return -2;
            }
            for (int letter = 0; letter < need.length; letter++) {
                for (int i = 0; i < need[letter]; i++) {
                    int piece = stock.choose(letter, copies, state.left, 0);
                    put(state.place, piece, page);
                    put(state.rank, piece, i);
                }
            }
            put(state.pageTexts, page, text);
            return page;
        }

        int press(int page, int copies) {
            if (leastLeftOn(page) < copies) {
                return -1;
            }
            int wornOut = 0;
            for (int piece = 0; piece < ALL; piece++) {
                if (look(state.place, piece) == page) {
                    int left = look(state.left, piece) - copies;
                    put(state.left, piece, left);
                    wornOut += left == 0 ? 1 : 0;
                }
            }
            return wornOut;
        }

        int piecesOn(int page) {
            int found = 0;
            for (int piece = 0; piece < ALL; piece++) {
                found += look(state.place, piece) == page ? 1 : 0;
            }
            return found;
        }

        int faintOn(int page) {
            int found = 0;
            for (int piece = 0; piece < ALL; piece++) {
                found += look(state.place, piece) == page && isFaint(piece) ? 1 : 0;
            }
            return found;
        }

        int leastLeftOn(int page) {
            int least = NO_BOUND;
            for (int piece = 0; piece < ALL; piece++) {
                if (look(state.place, piece) == page) {
                    least = Math.min(least, look(state.left, piece));
                }
            }
            return least;
        }

        int misreadOn(int page) {
            int text = look(state.pageTexts, page);
            int found = 0;
            for (int i = 0; i < texts.lengthOf(text); i++) {
                found += readAs(page, i) != texts.wordAt(text, i) ? 1 : 0;
            }
            return found;
        }

        int readAs(int page, int i) {
            int text = look(state.pageTexts, page);
            fillRow(seen, 0);
            for (int before = 0; before < i; before++) {
                tongue.countInto(texts.wordAt(text, before), seen);
            }
            int word = texts.wordAt(text, i);
            int length = look(tongue.lengths, word);
            for (int k = 0; k < length; k++) {
                int letter = tongue.letterAt(word, k);
                int rank = look(seen, letter);
                put(spelled, k, readLetter(page, letter, rank));
                put(seen, letter, rank + 1);
            }
            return tongue.find(spelled, length);
        }

        private int readLetter(int page, int letter, int rank) {
            int like = look(lead.likes, letter);
            for (int i = 0; i < stock.pieces(letter); i++) {
                int piece = letter * EACH + i;
                if (look(state.place, piece) == page && look(state.rank, piece) == rank) {
                    return isFaint(piece) && like != NONE ? like : letter;
                }
            }
            return letter;
        }

        private boolean isFaint(int piece) {
            return look(state.left, piece) < lead.faint;
        }

        private int firstFree() {
            for (int page = 0; page < PAGES; page++) {
                if (!stands(page)) {
                    return page;
                }
            }
            return NONE;
        }
    }

    /** The WORDINGS of a TEXT. */
    private static final class Rows {
        private final Lead lead;
        private final Tongue tongue;
        private final Texts texts;
        private final State state;
        private final Stock stock;
        private final int[] sums;
        private final int[] spare;
        private final int[] tried;
        private final int[] best;
        private int price;

        Rows(Lead lead, Tongue tongue, Texts texts, State state, Stock stock) {
            this.lead = lead;
            this.tongue = tongue;
            this.texts = texts;
            this.state = state;
            this.stock = stock;
            sums = new int[ROW * MEMBERS];
            spare = new int[LETTERS];
            tried = new int[ROW];
            best = new int[ROW];
            price = NONE;
        }

        int priceOf(int word) {
            int sum = 0;
            for (int i = 0; i < look(tongue.lengths, word); i++) {
                sum += look(lead.prices, tongue.letterAt(word, i));
            }
            return sum;
        }

        /** What the latest search found: the PRICE, or the i-th WORD. */
        int found(int text, int i, int what) {
            if (price == NONE || what == 0) {
                return price;
            }
            return i >= 0 && i < texts.lengthOf(text) ? look(best, i) : NONE;
        }

        boolean tooMany(int text) {
            int product = 1;
            for (int i = 0; i < texts.lengthOf(text); i++) {
                product *= tongue.membersLike(texts.wordAt(text, i));
                if (product > ROWS_TRIED) {
                    return true;
                }
            }
            return false;
        }

        /** From the last place on, in how many ways the rest can go on from each WORD; at most 5 to the 12th. */
        int howMany(int text) {
            for (int i = texts.lengthOf(text) - 1; i >= 0; i--) {
                int word = texts.wordAt(text, i);
                for (int k = 0; k < tongue.membersLike(word); k++) {
                    put(sums, i * MEMBERS + k, waysBehind(text, i, tongue.firstLike(word) + k));
                }
            }
            return waysBehind(text, -1, NONE);
        }

        /** From the last place on, what each WORD and the least that can follow it cost. */
        void findLeast(int text) {
            int length = texts.lengthOf(text);
            for (int i = length - 1; i >= 0; i--) {
                int word = texts.wordAt(text, i);
                for (int k = 0; k < tongue.membersLike(word); k++) {
                    put(sums, i * MEMBERS + k, leastFrom(text, i, tongue.firstLike(word) + k));
                }
            }
            int before = NONE;
            price = NONE;
            for (int i = 0; i < length; i++) {
                before = cheapestBehind(text, i - 1, before);
                if (before == NONE) {
                    return;
                }
                put(best, i, before);
                price = i == 0 ? sumAt(text, 0, before) : price;
            }
        }

        void findFitting(int text, int copies) {
            for (int letter = 0; letter < spare.length; letter++) {
                spare[letter] = stock.ready(letter, copies, state.left);
            }
            price = NONE;
            fitFrom(this, text, 0, NONE, 0);
        }

        /** Rows come by number, so of those of one PRICE the first that is found stays. */
        private static void fitFrom(Rows rows, int text, int place, int before, int sum) {
            if (place >= rows.texts.lengthOf(text) || place >= ROW) {
                copyRow(rows.tried, rows.best);
                rows.price = sum;
                return;
            }
            int told = rows.texts.wordAt(text, place);
            for (int k = 0; k < rows.tongue.membersLike(told); k++) {
                int word = rows.tongue.firstLike(told) + k;
                int next = sum + rows.priceOf(word);
                if (rows.mayFollow(before, word) && (rows.price == NONE || next < rows.price)) {
                    if (rows.spend(word, 1)) {
                        put(rows.tried, place, word);
                        fitFrom(rows, text, place + 1, word, next);
                    }
                    rows.spend(word, -1);
                }
            }
        }

        /** Takes the PIECES of a WORD, or gives them back; false: there were not so many. */
        private boolean spend(int word, int sign) {
            boolean enough = true;
            for (int i = 0; i < look(tongue.lengths, word); i++) {
                int letter = tongue.letterAt(word, i);
                int rest = look(spare, letter) - sign;
                put(spare, letter, rest);
                enough = enough && rest >= 0;
            }
            return enough;
        }

        private boolean mayFollow(int before, int word) {
            return before == NONE || lead.mayFollow(look(tongue.marks, before), look(tongue.marks, word));
        }

        private int sumAt(int text, int i, int word) {
            return look(sums, i * MEMBERS + word - tongue.firstLike(texts.wordAt(text, i)));
        }

        private int waysBehind(int text, int i, int word) {
            int next = i + 1;
            if (next >= texts.lengthOf(text)) {
                return 1;
            }
            int told = texts.wordAt(text, next);
            int ways = 0;
            for (int k = 0; k < tongue.membersLike(told); k++) {
                int other = tongue.firstLike(told) + k;
                ways += mayFollow(word, other) ? sumAt(text, next, other) : 0;
            }
            return ways;
        }

        private int leastFrom(int text, int i, int word) {
            if (i + 1 >= texts.lengthOf(text)) {
                return priceOf(word);
            }
            int next = cheapestBehind(text, i, word);
            return next == NONE ? NONE : priceOf(word) + sumAt(text, i + 1, next);
        }

        private int cheapestBehind(int text, int i, int word) {
            int told = texts.wordAt(text, i + 1);
            int cheapest = NONE;
            int least = NO_BOUND;
            for (int k = 0; k < tongue.membersLike(told); k++) {
                int other = tongue.firstLike(told) + k;
                int sum = sumAt(text, i + 1, other);
                if (sum != NONE && sum < least && mayFollow(word, other)) {
                    cheapest = other;
                    least = sum;
                }
            }
            return cheapest;
        }
    }

    /** What is WANTED, by WEEKS; it is printed in rows of its own, so that nothing stays changed. */
    private static final class Weeks {
        private final Tongue tongue;
        private final Texts texts;
        private final State state;
        private final Stock stock;
        private final int[][] lefts;
        private final int[] leftBehind;
        private final int[] order;
        private final int[] need;
        private int worth;
        private int bits;
        private int sets;

        Weeks(Tongue tongue, Texts texts, State state, Stock stock) {
            this.tongue = tongue;
            this.texts = texts;
            this.state = state;
            this.stock = stock;
            lefts = new int[WANTED][ALL];
            leftBehind = new int[ALL];
            order = new int[WANTED];
            need = new int[LETTERS];
        }

        void findMost() {
            sortByWeek();
            worth = 0;
            bits = 0;
            sets = 0;
            tryFrom(this, state.left, 0, 0, 0);
        }

        /** Prints each that can be, of the WEEKS ahead of one. */
        void printGreedily(int week) {
            startGreedy();
            for (int i = 0; i < state.wanted; i++) {
                int want = look(order, i);
                if (look(state.wantWeeks, want) < week) {
                    printNext(want);
                }
            }
        }

        int stillSaid(int word) {
            tongue.spell(word, need);
            return stock.often(need, leftBehind);
        }

        int wordsLost() {
            int found = 0;
            for (int word = 0; word < tongue.size; word++) {
                found += stillSaid(word) == 0 ? 1 : 0;
            }
            return found;
        }

        /** What is LEFT only falls, so a WORD that is lost in the midst of a WEEK is lost in the next one. */
        int firstLost(int word) {
            startGreedy();
            if (stillSaid(word) == 0) {
                return 0;
            }
            for (int i = 0; i < state.wanted; i++) {
                int want = look(order, i);
                printNext(want);
                if (stillSaid(word) == 0) {
                    return look(state.wantWeeks, want) + 1;
                }
            }
            return NONE;
        }

        int leastBound() {
            int least = boundBy(0);
            for (int letter = 1; letter < LETTERS; letter++) {
                least = Math.min(least, boundBy(letter));
            }
            return least;
        }

        /** Each depth prints in a row of its own, so that what was LEFT ahead of it stands until both ways are tried. */
        private static void tryFrom(Weeks weeks, int[] left, int depth, int worth, int bits) {
            if (depth < 0 || depth >= weeks.state.wanted || depth >= weeks.lefts.length) {
                weeks.keep(worth, bits);
                return;
            }
            tryFrom(weeks, left, depth + 1, worth, bits);
            int[] next = weeks.lefts[depth];
            copyRow(left, next);
            int want = look(weeks.order, depth);
            if (weeks.printOne(want, next)) {
                tryFrom(weeks, next, depth + 1, worth + look(weeks.state.wantWorths, want), bits | 1 << want);
            }
        }

        private void keep(int setWorth, int setBits) {
            if (setWorth > worth || setWorth == worth && setBits < bits) {
                worth = setWorth;
                bits = setBits;
            }
            sets++;
        }

        private void startGreedy() {
            sortByWeek();
            worth = 0;
            bits = 0;
            copyRow(state.left, leftBehind);
        }

        private void printNext(int want) {
            if (printOne(want, leftBehind)) {
                worth += look(state.wantWorths, want);
                bits |= 1 << want;
            }
        }

        private boolean printOne(int want, int[] left) {
            int copies = look(state.wantCopies, want);
            texts.spell(look(state.wantTexts, want), need);
            if (stock.lacking(need, copies, left) != NONE) {
                return false;
            }
            stock.wear(need, copies, left);
            return true;
        }

        /** By insertion, for those of one WEEK have to stay as they were told. */
        private void sortByWeek() {
            for (int want = 0; want < state.wanted; want++) {
                int week = look(state.wantWeeks, want);
                int i = want;
                for (; i > 0 && look(state.wantWeeks, look(order, i - 1)) > week; i--) {
                    put(order, i, look(order, i - 1));
                }
                put(order, i, want);
            }
        }

        /** The one that does not go in whole uses all prints up, and those that need none came ahead of it. */
        private int boundBy(int letter) {
            int rest = stock.leftInCase(letter);
            int sum = 0;
            int taken = 0;
            for (int i = 0; i < state.wanted; i++) {
                int want = dearestOf(letter, taken);
                if (want == NONE) {
                    return sum;
                }
                taken |= 1 << want;
                int prints = printsOf(want, letter);
                int whole = look(state.wantWorths, want);
                if (prints > rest && prints > 0) {
                    return sum + whole * rest / prints;
                }
                sum += whole;
                rest -= prints;
            }
            return sum;
        }

        private int printsOf(int want, int letter) {
            return texts.needOf(look(state.wantTexts, want), letter) * look(state.wantCopies, want);
        }

        /**
         * Of those not taken the one of most worth for each print, one that needs none ahead of all.
         * By products, so that nothing is cut.
         */
        private int dearestOf(int letter, int taken) {
            int dearest = NONE;
            for (int want = 0; want < state.wanted; want++) {
                if ((taken >> want & 1) != 0) {
                    continue;
                }
                if (dearest == NONE || look(state.wantWorths, want) * printsOf(dearest, letter)
                        > look(state.wantWorths, dearest) * printsOf(want, letter)) {
                    dearest = want;
                }
            }
            return dearest;
        }
    }

    /** What one PIECE more, or another one, would do, and what can stand at one time. */
    private static final class Trade {
        private final Lead lead;
        private final Texts texts;
        private final State state;
        private final Stock stock;
        private final int[] now;
        private final int[] fewer;
        private final int[] more;
        private final int[] other;
        private final int[] ready;

        Trade(Lead lead, Texts texts, State state, Stock stock) {
            this.lead = lead;
            this.texts = texts;
            this.state = state;
            this.stock = stock;
            now = new int[LETTERS];
            fewer = new int[LETTERS];
            more = new int[LETTERS];
            other = new int[LETTERS];
            ready = new int[LETTERS];
        }

        int bestExchange(int text) {
            for (int letter = 0; letter < LETTERS; letter++) {
                weigh(text, letter, lead.mostThere(letter));
            }
            int most = leastOf(NONE, NONE);
            int best = NONE;
            for (int ours = 0; ours < LETTERS; ours++) {
                for (int theirs = 0; theirs < LETTERS; theirs++) {
                    boolean both = stock.inCase(ours) > 0 && look(lead.therePieces, theirs) > 0;
                    int often = both ? leastOf(ours, theirs) : 0;
                    if (often > most) {
                        most = often;
                        best = ours * 100 + theirs;
                    }
                }
            }
            return best;
        }

        int bestCast(int text, int prints) {
            for (int letter = 0; letter < LETTERS; letter++) {
                weigh(text, letter, prints);
            }
            int most = leastOf(NONE, NONE);
            int best = NONE;
            for (int letter = 0; letter < LETTERS; letter++) {
                int often = leastOf(NONE, letter);
                if (often > most) {
                    most = often;
                    best = letter;
                }
            }
            return best;
        }

        /** All are SET for the same copies, so it is enough to count; the HABIT changes nothing. */
        int mostAtOnce(int copies) {
            for (int letter = 0; letter < ready.length; letter++) {
                ready[letter] = stock.ready(letter, copies, state.left);
            }
            int best = 0;
            for (int bits = 1; bits < 1 << texts.size; bits++) {
                if (Integer.bitCount(bits) > Integer.bitCount(best) && standAtOnce(bits)) {
                    best = bits;
                }
            }
            return best;
        }

        private boolean standAtOnce(int bits) {
            for (int letter = 0; letter < ready.length; letter++) {
                int sum = 0;
                for (int text = 0; text < texts.size; text++) {
                    sum += (bits >> text & 1) == 1 ? texts.needOf(text, letter) : 0;
                }
                if (sum > ready[letter]) {
                    return false;
                }
            }
            return true;
        }

        /** How often a letter will do: as it is, with a PIECE fewer, with one more, with one for another. */
        private void weigh(int text, int letter, int prints) {
            int need = texts.needOf(text, letter);
            int reach = stock.reach(letter, need, state.left);
            int reachFewer = reachWithoutLeast(letter, need);
            put(now, letter, reach);
            put(fewer, letter, reachFewer);
            put(more, letter, joined(reach, stock.reach(letter, need - 1, state.left), prints));
            put(other, letter, joined(reachFewer, reachWithoutLeast(letter, need - 1), prints));
        }

        /** The PIECE with the least LEFT is missed only where all are needed. */
        private int reachWithoutLeast(int letter, int need) {
            return need > 0 && need >= stock.inCase(letter) ? 0 : stock.reach(letter, need, state.left);
        }

        /** A new PIECE takes one place, and the best of the old ones the others, if that does for more. */
        private static int joined(int reach, int reachOfOthers, int prints) {
            return Math.max(reach, Math.min(reachOfOthers, prints));
        }

        private int leastOf(int ours, int theirs) {
            int least = NO_BOUND;
            for (int letter = 0; letter < LETTERS; letter++) {
                int often = look(letter == theirs ? more : now, letter);
                if (letter == ours) {
                    often = look(letter == theirs ? other : fewer, letter);
                }
                least = Math.min(least, often);
            }
            return least;
        }
    }
}

/** Each letter, GROUP, WORD, TEXT, PIECE and want that there can be: none of the last ones is left out. */
final class EachTests {
    private EachTests() {
    }

    static void run() {
        for (char c = 'a'; c <= 'z'; c++) {
            eachLetterAlone(c, c - 'a');
            eachLetterWanting(c, c - 'a');
        }
        eachLetterForAnother();
        eachLetterInOneText();
        eachGroup();
        eachWordOfAText();
        eachText();
        eachWant();
    }

    private static void eachLetterAlone(char c, int letter) {
        String twice = "" + c + c;
        WornType x = Checks.made("letter c 1 9;letter c 2 7;there c 1 30;price c 4;faint 4;like c q;".replace(" c", " " + c),
            c + ";" + twice + ";qq,q;".replace("q", c == 'q' ? "r" : "q"), "" + c, twice);
        Checks.is("pieces of " + c, x.letter(letter, 0), 3);
        Checks.is("left of all " + c, x.letter(letter, 2), 23);
        Checks.is("the most left of " + c, x.letter(letter, 3), 9);
        Checks.is("price of " + twice, x.word(1, 3), 8);
        Checks.is("least of " + c, x.least(0, 0, 0), 4);
        Checks.is("needs of " + c, x.needs(1, letter), 2);
        Checks.is("can " + twice, x.can(1), 7);
        Checks.is("lacks " + c, x.lacks(0, 10), letter);
        Checks.is("lacks " + twice, x.lacks(1, 8), letter);
        Checks.is("lacks nothing", x.lacks(1, 7), -1);
        Checks.is("fitting " + twice, x.fitting(1, 7, 0, 0), 8);
        Checks.is("not fitting " + twice, x.fitting(1, 8, 0, 0), -1);
        Checks.is("exchange " + c, x.exchange(0), 101 * letter);
        Checks.is("cast " + c, x.cast(0, 10), letter);
        Checks.is("together", x.together(7), 3);
        Checks.is("together for 8", x.together(8), 1);
        x.want(1, 7, 0, 46);
        x.want(0, 30, 0, 15);
        Checks.is("bound: 23 of 14 and 30", x.bound(), 46 + 4);
        Checks.is("said of " + twice, x.said(1, 1), 0);
        Checks.is("said of " + c, x.said(0, 1), 9);
        Checks.is("set " + twice, x.set(1, 7), 0);
        Checks.is("in the case", x.letter(letter, 1), 1);
        Checks.is("the page of the second", x.piece(letter, 1, 1), 0);
        Checks.is("print", x.print(0, 4), 0);
        Checks.is("faint ones", x.page(0, 2), 2);
        Checks.is("print to the end", x.print(0, 3), 2);
        Checks.is("worn out", x.letter(letter, 4), 2);
        Checks.is("apart", x.apart(0), 2);
    }

    /** Of all letters but one there are pieces. */
    private static void eachLetterWanting(char c, int letter) {
        StringBuilder text = new StringBuilder();
        for (char other = 'a'; other <= 'z'; other++) {
            text.append(other == c ? "" : "letter " + other + " 1 9;");
        }
        WornType x = Checks.made(text + "there " + c + " 1 9;", "abcdefghi;jklmnopqr;stuvwxyz;z,a;",
            "abcdefghi jklmnopqr stuvwxyz", "z", "a");
        Checks.is("can without " + c, x.can(0), 0);
        Checks.is("lacks " + c, x.lacks(0, 1), letter);
        Checks.is("it can't be set", x.set(0, 1), -1);
        Checks.is("not fitting", x.fitting(0, 1, 0, 0), -1);
        Checks.is("no exchange, for all others are needed", x.exchange(0), -1);
        Checks.is("cast " + c, x.cast(0, 9), letter);
        Checks.is("together", x.together(1), c == 'z' ? 4 : c == 'a' ? 2 : 6);
        x.want(0, 1, 0, 9);
        Checks.is("bound", x.bound(), 0);
        Checks.is("most", x.most(2), 1);
        Checks.is("said of the word with " + c, x.said(letter / 9, 0), 0);
    }

    private static void eachLetterForAnother() {
        for (int ours = 0; ours < 26; ours++) {
            for (int theirs = 0; theirs < 26; theirs++) {
                char o = (char) ('a' + ours);
                char t = (char) ('a' + theirs);
                WornType x = Checks.made("letter " + o + " 1 8;there " + t + " 1 9;", t + ";", "" + t);
                Checks.is(o + " for " + t, x.exchange(0), 100 * ours + theirs);
                Checks.is("cast " + t, x.cast(0, 9), theirs);
            }
        }
    }

    private static void eachLetterInOneText() {
        StringBuilder text = new StringBuilder();
        for (int letter = 0; letter < 26; letter++) {
            text.append("letter ").append((char) ('a' + letter)).append(" 12 ").append(400 - letter).append(';');
        }
        WornType x = Checks.made(text.toString(), "abcdefghi;jklmnopqr;stuvwxyz;",
            "abcdefghi jklmnopqr stuvwxyz ".repeat(4));
        Checks.is("pieces", x.told(0), 312);
        Checks.is("can", x.can(0), 375);
        for (int letter = 0; letter < 26; letter++) {
            Checks.is("needs of " + letter, x.needs(0, letter), 4);
        }
        for (int page = 0; page < 3; page++) {
            Checks.is("set", x.set(0, 375), page);
            Checks.is("pieces of the page", x.page(page, 1), 104);
        }
        Checks.is("none are left", x.set(0, 1), -1);
        Checks.is("print", x.print(2, 375), 4);
        for (int letter = 0; letter < 26; letter++) {
            for (int i = 0; i < 12; i++) {
                Checks.is("the page of " + letter + ", " + i, x.piece(letter, i, 1), i / 4);
                Checks.is("left of " + letter + ", " + i, x.piece(letter, i, 0), 400 - letter - (i < 8 ? 0 : 375));
            }
        }
        for (int page = 0; page < 3; page++) {
            Checks.is("apart", x.apart(page), 104);
        }
        Checks.is("can", x.can(0), 375);
    }

    private static void eachGroup() {
        StringBuilder text = new StringBuilder();
        for (int g = 0; g < 20; g++) {
            String c = String.valueOf((char) ('f' + g));
            text.append(c + c + c + "," + c + "/" + g % 4 + "," + c + c + "/3;");
        }
        for (int g = 0; g < 20; g++) {
            String c = String.valueOf((char) ('f' + g));
            WornType x = Checks.made("letter " + c + " 2 9;follow 3 3;", text.toString(), c + c + c, c + c + " " + c + c);
            for (int k = 0; k < 3; k++) {
                Checks.is("the group of word " + (3 * g + k), x.word(3 * g + k, 2), g);
                Checks.is("its letters", x.word(3 * g + k, 0), new int[] {3, 1, 2}[k]);
                Checks.is("its mark", x.word(3 * g + k, 1), new int[] {0, g % 4, 3}[k]);
                Checks.is("alone", x.word(3 * g + k, 4), k == 0 ? 0 : 9);
                Checks.is("lost from the first", x.ends(3 * g + k), k == 0 ? 0 : -1);
            }
            Checks.is("wordings by group " + g, x.wordings(0), 3);
            Checks.is("the least", x.least(0, 0, 1), 3 * g + 1);
            Checks.is("its price", x.least(0, 0, 0), 1);
            Checks.is("fitting for 9", x.fitting(0, 9, 0, 1), 3 * g + 1);
            Checks.is("wordings of two", x.wordings(1), g % 4 == 3 ? 5 : 8);
            Checks.is("the least of two", x.least(1, 0, 0), g % 4 == 3 ? 4 : 2);
            Checks.is("fitting of two", x.fitting(1, 9, 1, 1), g % 4 == 3 ? -1 : 3 * g + 1);
            Checks.is("all others are lost", x.lost(0), 58);
        }
    }

    private static void eachWordOfAText() {
        String all = "a b c d e f g h i j k l";
        StringBuilder kase = new StringBuilder("faint 9;like l a;");
        for (char c = 'a'; c <= 'l'; c++) {
            kase.append("letter ").append(c).append(" 1 ").append(20 + c - 'a').append(';');
        }
        WornType x = Checks.made(kase.toString(), all.replace(' ', ';') + ";", all);
        Checks.is("set", x.set(0, 20), 0);
        for (int i = 0; i < 12; i++) {
            Checks.is("the word in place " + i, x.at(0, i), i);
            Checks.is("it is read", x.read(0, i), i);
            Checks.is("the least in place " + i, x.least(0, i, 1), i);
        }
        Checks.is("print", x.print(0, 20), 1);
        Checks.is("all but three are faint", x.page(0, 2), 9);
        Checks.is("l has 11", x.read(0, 11), 11);
        Checks.kase(x, kase.toString().replace("l 1 31", "l 1 20"));
        Checks.is("set", x.set(0, 20), 0);
        Checks.is("print", x.print(0, 20), 2);
        Checks.is("the last is read as the first", x.read(0, 11), 0);
        Checks.is("it alone", x.page(0, 4), 1);
    }

    private static void eachText() {
        String[] texts = {"a", "b a", "b b", "a a a", "b b b", "a b a b", "b a b a", "a a a a a"};
        int[] as = {1, 1, 0, 3, 0, 2, 2, 5};
        int[] bs = {0, 1, 2, 0, 3, 2, 2, 0};
        WornType x = Checks.made("letter a 5 9;letter b 2 8;letter b 1 4;price b 2;", "a,aa;b;", texts);
        for (int text = 0; text < 8; text++) {
            Checks.is("a of text " + text, x.needs(text, 0), as[text]);
            Checks.is("b of text " + text, x.needs(text, 1), bs[text]);
            Checks.is("none beyond", x.needs(text, 25), 0);
            Checks.is("can " + text, x.can(text), bs[text] == 0 ? 9 : bs[text] < 3 ? 8 : 4);
            Checks.is("the last word of text " + text, x.at(text, as[text] + bs[text]), -1);
            Checks.is("least of text " + text, x.least(text, 0, 0), as[text] + 2 * bs[text]);
            Checks.is("wordings of text " + text, x.wordings(text), 1 << as[text]);
            Checks.is("want " + text, x.want(text, 1, 0, 1), text + 1);
        }
        Checks.is("each of them is printed", x.greedy(1), 255);
        Checks.is("together: a, b a, b b, a a a", x.together(1), 1 + 2 + 4 + 8);
        Checks.is("set the last", x.set(7, 9), 0);
        Checks.is("its text", x.page(0, 0), 7);
        Checks.is("its pieces", x.page(0, 1), 5);
    }

    private static void eachWant() {
        for (int single = 0; single < 10; single++) {
            WornType x = Checks.made("letter a 1 10;", "a;aa;", "a", "aa");
            for (int i = 0; i < 10; i++) {
                x.want(i == single ? 0 : 1, 3 + i, 9 - i, 1 + i);
            }
            boolean fits = 3 + single <= 10;
            Checks.is("greedy bits by " + single, x.greedy(1), fits ? 1 << single : 0);
            Checks.is("greedy worth by " + single, x.greedy(0), fits ? 1 + single : 0);
            Checks.is("most bits by " + single, x.most(1), fits ? 1 << single : 0);
            Checks.is("sets by " + single, x.most(2), fits ? 2 : 1);
            Checks.is("said ahead", x.said(0, 9 - single), 10);
            Checks.is("said behind", x.said(0, 10 - single), fits ? 7 - single : 10);
            Checks.is("ends by " + single, x.ends(0), single == 7 ? 3 : -1);
        }
    }
}

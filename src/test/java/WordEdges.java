/** Boundaries that the promises of words and names with gaps name: 37 and 38. */
abstract class WordEdges extends Edges {
    static void all() {
        word();
        wordNumbers();
        wordRefused();
        names();
        namesRefused();
    }

    private static void word() {
        edge("word", "THE TEXT is a WORD: digits 0 .. 9, and ? for one that can't be read (1 to 4 signs): PERIODS (bits) whose DOWN (what"
            + " 0), UP (1) it may be (as long, no 0 ahead);");
        fresh();
        book("1:9;19:99;199:999;1999:2000;2:10;0020:0100;2:1");
        due("65[9]", told(word("?", 0)));
        due("18[90]", told(word("??", 0)));
        due("36[900]", told(word("???", 0)));
        due("8[1001]", told(word("????", 0)));
        due("81[9]", told(word("?", 1)));
        due("34[90]", told(word("??", 1)));
        due("4[900]", told(word("???", 1)));
        due("8[1001]", told(word("????", 1)));
        due("1[1]", told(word("9", 0)));
        due("2[1]", told(word("99", 0)));
        due("4[1]", told(word("999", 0)));
        due("8[1]", told(word("2000", 0)));
        due("8[1]", told(word("1999", 1)));
        due("2[10]", told(word("1?", 1)));
        due("32[9]", told(word("?0", 1)));
        due("16[10]", told(word("1?", 0)));
        due("32[1]", told(word("100", 0)));
        // no 0 ahead, though the book may have it
        due("0[0]", told(word("0", 0)));
        due("0[0]", told(word("0?", 0)));
        due("0[0]", told(word("010", 0)));
        due("0[0]", told(word("0100", 0)));
        due("0[0]", told(word("00??", 0)));
        due("0[0]", told(word("0???", 1)));
    }

    private static void wordNumbers() {
        edge("word", "the ROW: how many numbers 1 .. 2000 it may be at all.");
        fresh();
        due("0[1]", told(word("1", 0)));
        due("0[1]", told(word("2000", 0)));
        due("0[0]", told(word("2001", 0)));
        due("0[1]", told(word("200?", 0)));
        due("0[1]", told(word("2???", 0)));
        due("0[100]", told(word("19??", 0)));
        due("0[0]", told(word("3???", 0)));
        due("0[11]", told(word("?0?0", 0)));
        due("0[100]", told(word("1?5?", 1)));
        due("0[9]", told(word("?0", 1)));
    }

    private static void wordRefused() {
        edge("word", "-100 - p: the sign at p can't stand there (its end, if it is empty; 4, if it has more). NONE: another what.");
        for (int what = 0; what < 2; what++) {
            fresh();
            book("1:1");
            x.slot(1, 2, 1, 1);
            due(-100, word("", what));
            for (String sign : new String[] {"x", "/", ":", ">", "@", " ", "\u0000", "\u00b2", "\u00ff", "a", ";"}) {
                due(-100, word(sign, what));
                due(-101, word("1" + sign, what));
                due(-102, word("?1" + sign + "1", what));
                due(-103, word("12?" + sign, what));
                due(-104, word("1234" + sign, what));
                due(-100, word(sign + "12345678", what));
            }
            due(-104, word("12345", what));
            due(-104, word("?????", what));
            due(-104, word("1234".repeat(20), what));
            due(-101, word("1x345", what));
            due(-103, word("123x5", what));
            due(0, x.count(8));
            due("[2, 1]", rowNow());
        }
        fresh();
        book("1:1");
        x.slot(1, 2, 1, 1);
        due(-1, word("1", 2));
        due(0, x.count(8));
        due(-1, word("1", -1));
        due(-1, word("x", 2));
        due(-1, word("", 2));
        due(-1, word("12345", Integer.MAX_VALUE));
        due(-1, word("1", Integer.MIN_VALUE));
        due(0, x.count(8));
        due("[2, 1]", rowNow());
        due("1[1]", told(word("1", 0)));
    }

    private static void names() {
        edge("names", "THE TEXT is a row of NAMES a .. z and ? (1 to 8 signs): all ways to put PERIODS to its signs, none to two, each"
            + " with its NAME where it is told: how many; the ROW: the first (by the first sign's PERIOD, then the next one's, ..).");
        fresh();
        book("1:1a;1:1;1:1z;1:1a");
        due("2[0]", told(names("a")));
        due("1[2]", told(names("z")));
        due("4[0]", told(names("?")));
        due("2[0, 3]", told(names("aa")));
        due("2[2, 0]", told(names("za")));
        due("6[0, 1]", told(names("a?")));
        due("6[0, 3]", told(names("?a")));
        due("4[0, 1, 3]", told(names("a?a")));
        due("2[1, 0, 2, 3]", told(names("?aza")));
        due("24[0, 1, 2, 3]", told(names("????")));
        book("1:1;1:1;1:1;1:1;1:1;1:1;1:1;1:1q");
        due("40320[0, 1, 2, 3, 4, 5, 6, 7]", told(names("????????")));
        due("5040[0, 1, 2, 3, 4, 5, 6, 7]", told(names("???????q")));
        due("5040[7, 0, 1, 2, 3, 4, 5, 6]", told(names("q???????")));
        due("40320[0, 1, 2, 3, 4, 5, 6]", told(names("???????")));
        due("8[0]", told(names("?")));
        due("1[7]", told(names("q")));
    }

    private static void namesRefused() {
        edge("names", "-100 - p likewise (8); 0: none (the ROW stays).");
        fresh();
        book("1:1a;1:1;1:1z;1:1a");
        x.slot(1, 2, 1, 1);
        due(-100, names(""));
        for (String sign : new String[] {"A", "`", "{", "1", "@", ">", " ", "\u0000", "\u00e1", "\u00ff", ";"}) {
            due(-100, names(sign));
            due(-101, names("a" + sign));
            due(-107, names("???????" + sign));
            due(-108, names("????????" + sign));
            due(-100, names(sign + "aaaaaaaaaa"));
        }
        due(-108, names("aaaaaaaaa"));
        due(-108, names("?".repeat(80)));
        due(-104, names("aaaa1aaaaa"));
        due(0, names("b"));
        due(0, names("zz"));
        due(0, names("aaa"));
        due(0, names("?????"));
        due(0, names("????????"));
        due(0, names("zaaz"));
        due(0, x.count(8));
        due("[2, 1]", rowNow());
        book("");
        due(0, names("a"));
        due(0, names("?"));
        due(-100, names(""));
        due("[2, 1]", rowNow());
    }
}

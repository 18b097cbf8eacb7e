import java.util.concurrent.Callable;

/** For each promise, answers worked out from the document by hand: ordinary ones, edges and wrong inputs. */
public final class PromisesTest {
    private static final String INDEX = "throws.IndexOutOfBoundsException";
    private static final String ARGUMENT = "throws.IllegalArgumentException";
    private static final String STATE = "throws.IllegalStateException";
    private static final String ELEMENT = "throws.NoSuchElementException";

    /**
     * Six cells; the second row of the back (size 1) is too small to be used.
     * Front: a b c (size 2), d - a (size 3). Back: x y z (size 4), - a b (size 1).
     */
    private static final String SIX = "page 3 2;front abc d-a;back xyz -ab;sizes 2 3 4 1;least 2;";

    private static int promise;

    private PromisesTest() {
    }

    public static void main(String[] args) {
        newObject();
        appended();
        loadedWell();
        loadedWithSyntaxErrors();
        loadedOutOfRange();
        loadedWithWrongWidths();
        loadedWrongly();
        errorOffsets();
        states();
        letters();
        places();
        stocks();
        messages();
        missingLetters();
        fewestCuts();
        cutsOfPlans();
        firstOfPlans();
        unevennesses();
        copiesForetold();
        longestStrips();
        clashing();
        meanSizes();
        tellings();
        cuttings();
        snippings();
        leastSizes();
        mendings();
        undoings();
        undoLimits();
        checksums();
        Due.finish();
    }

    private static void due(String what, Callable<?> call, Object want) {
        Due.due("promise " + promise + ": " + what, call, want);
    }

    private static void newObject() {
        promise = 1;
        LetterCuts x = new LetterCuts();
        int[] states = {1, 1, 1, 1, 0, 0, 0, 0};
        for (int what = 0; what < 8; what++) {
            int w = what;
            due("state(" + w + ")", () -> x.state(w), states[w]);
        }
        for (int side = 0; side < 2; side++) {
            int s = side;
            due("letter", () -> x.letter(s, 0), -1);
            due("size", () -> x.place(s, 0, 1), 1);
            due("one cell", () -> x.letter(s, 1), INDEX);
        }
        due("errorOffset()", () -> x.errorOffset(), -1);
        due("undo()", () -> x.undo(), -1);
        due("load(1) of an empty buffer", () -> x.load(1), ARGUMENT);
        due("append", () -> x.append(0, 0, 0, 0, 0), 20);
        due("two objects share nothing", () -> new LetterCuts().append(0, 0, 0, 0, 0), 20);
    }

    private static void appended() {
        promise = 2;
        LetterCuts x = new LetterCuts();
        for (int n = 20; n <= 400; n += 20) {
            int length = n;
            due("append to " + n, () -> x.append(-1, 0, Integer.MIN_VALUE, 7, 1), length);
        }
        due("append beyond 400", () -> x.append(1, 2, 3, 4, 5), -1);
        due("append beyond 400 again", () -> x.append(1, 2, 3, 4, 5), -1);
        due("the buffer has no 401 bytes", () -> x.load(401), ARGUMENT);
        due("the buffer has 400 bytes", () -> x.load(400), LetterCuts.SYNTAX_ERROR);
        due("append to the emptied buffer", () -> x.append(0x61626364, 0x65666768, 0x696a6b6c, 0x6d6e6f70, 0x71727374), 20);
        due("tell", () -> x.tell(20), 20);
        for (int k = 0; k < 20; k++) {
            int letter = k;
            due("message(" + k + ")", () -> x.message(letter), letter);
        }
        due("append", () -> x.append(0x78000000, -2, -3, -4, -5), 20);
        due("append behind what is there", () -> x.append(0x61626364, 0, 0, 0, 0), 40);
        due("a byte 0 is no letter", () -> x.tell(2), ARGUMENT);
        due("the buffer begins with x", () -> x.tell(1), 1);
        due("message(0)", () -> x.message(0), 23);
    }

    private static void good(String text, int cells) {
        LetterCuts x = new LetterCuts();
        due("load of '" + text + "'", () -> Due.setup(x, text), cells);
        due("errorOffset() of '" + text + "'", () -> x.errorOffset(), -1);
    }

    private static void bad(String text, int code, int offset) {
        LetterCuts x = Due.with("page 2 1;front ab;");
        long before = x.checksum();
        due("load of '" + text + "'", () -> Due.setup(x, text), code);
        due("errorOffset() of '" + text + "'", () -> x.errorOffset(), offset);
        due("data after the error in '" + text + "'", () -> x.checksum(), before);
        due("an error is no change", () -> x.undo(), 0);
    }

    private static void loadedWell() {
        promise = 3;
        good("page 1 1;", 1);
        good("page 8 6;", 48);
        good("page8 6;", 8 * 6);
        good("   page   8   6   ;   ", 48);
        good("page 0003 000000000000000000000000002;", 6);
        good("page 2 2;front ab cd;back ef gh;sizes 1 2 3 4;least 9;", 4);
        good("page 2 2;least1;sizes9 9 9 9;back ab cd;front ab cd;", 4);
        good("page 2 2;least 1 ; sizes 9 9  9 9 ;back ab cd ;front ab cd ; ", 4);
        good("page 5 2;front front sizes;back -page -----;", 10);
        good("page 2 2;front-a b-;back-- --;", 4);
        good(SIX, 6);
        LetterCuts x = Due.with("page 2 1;front ab;least 3;sizes 4 5;");
        Due.told(x, "ab");
        x.cut();
        due("load over other data", () -> Due.setup(x, "page 1 2;back c d;"), 2);
        int[] states = {1, 2, 1, 2, 0, 0, 0, 2};
        for (int what = 0; what < 8; what++) {
            int w = what;
            due("state(" + w + ") after load", () -> x.state(w), states[w]);
        }
        due("places are blank without their statement", () -> x.letter(0, 1), -1);
        due("sizes are 1 without their statement", () -> x.place(1, 1, 1), 1);
        due("rows from the top", () -> x.letter(1, 1), 3);
        due("the buffer is empty afterwards", () -> x.load(1), ARGUMENT);
    }

    private static void loadedWithSyntaxErrors() {
        int code = LetterCuts.SYNTAX_ERROR;
        bad("", code, 0);
        bad("   ", code, 3);
        bad("pag", code, 0);
        bad("  pages 1 1;", code, 2);
        bad("Page 1 1;", code, 0);
        bad("front ab;", code, 0);
        bad("page", code, 4);
        bad("page ", code, 5);
        bad("page-1 1;", code, 4);
        bad("page 2", code, 6);
        bad("page 2;", code, 6);
        bad("page 2 1", code, 8);
        bad("page 2 1   ", code, 11);
        bad("page 2 1 1;", code, 9);
        bad("page 2 1 99;", code, 9);
        bad("page 2,1;", code, 6);
        bad("page 2 a;", code, 7);
        bad("page 2 -1;", code, 7);
        bad("page 2 1;;", code, 9);
        bad("page 2 1; x;", code, 10);
        bad("page 2 1;page 2 1;", code, 9);
        bad("page 2 1;frontab;", code, 9);
        bad("page 2 1;\tfront ab;", code, 9);
        bad("page 2 1;front ab;\n", code, 18);
        bad("page 2 1;front", code, 14);
        bad("page 2 1;front;", code, 14);
        bad("page 2 1;front 12;", code, 15);
        bad("page 2 1;front ab", code, 17);
        bad("page 2 1;front ab cd;", code, 18);
        bad("page 2 1;front ab abc;", code, 18);
        bad("page 2 1;front ab 1;", code, 18);
        bad("page 2 2;front ab;", code, 17);
        bad("page 2 2;front ab  ;", code, 19);
        bad("page 2 1;front aB;", LetterCuts.WRONG_WIDTH, 15);
        bad("page 2 1;front abB;", code, 17);
        bad("page 2 1;front ab;front ab;", code, 18);
        bad("page 2 1;back ab;least 1;back abc;", code, 25);
        bad("page 2 1;least 1;least 0;", code, 17);
        bad("page 2 1;sizes 1 1; sizes 1 1;", code, 20);
        bad("page 2 1;sizes 1;", code, 16);
        bad("page 2 1;sizes;", code, 14);
        bad("page 2 1;sizes 1 1 1;", code, 19);
        bad("page 2 1;sizes 1 1 0;", code, 19);
        bad("page 2 1;sizes 1 1 aa;", code, 19);
        bad("page 2 1;sizes 1 a;", code, 17);
        bad("page 2 1;least;", code, 14);
        bad("page 2 1;least 1 1;", code, 17);
        bad("page 2 1;least a;", code, 15);
        bad("page 2 1;least-1;", code, 14);
        bad("page 2 1;least 1", code, 16);
        bad("page 2 1\u00a0;", code, 8);
        bad("page 2 1;front \u00e4b;", code, 15);
        bad("page 2 1;-front ab;", code, 9);
    }

    private static void loadedOutOfRange() {
        int code = LetterCuts.OUT_OF_RANGE;
        bad("page 0 1;", code, 5);
        bad("page 9 1;", code, 5);
        bad("page 9", code, 5);
        bad("page 1 0;", code, 7);
        bad("page 1 7;", code, 7);
        bad("page 1 00;", code, 7);
        bad("page 00000 1;", code, 5);
        bad("page 4294967297 1;", code, 5);
        bad("page 18446744073709551617 1;", code, 5);
        bad("page 1 " + "9".repeat(300) + ";", code, 7);
        bad("page 2 1;least 0;", code, 15);
        bad("page 2 1;least 10;", code, 15);
        bad("page 2 1;sizes 0 1;", code, 15);
        bad("page 2 1;sizes 1 10;", code, 17);
        bad("page 2 1;sizes 10;", code, 15);
        bad("page 0 1;front abc;", code, 5);
    }

    private static void loadedWithWrongWidths() {
        int code = LetterCuts.WRONG_WIDTH;
        bad("page 2 1;front a;", code, 15);
        bad("page 2 1;front abc;", code, 15);
        bad("page 2 1;front-;", code, 14);
        bad("page 2 1;front  --a;", code, 16);
        bad("page 2 2;back ab abc;", code, 17);
        bad("page 2 2;front ab page;", code, 18);
        bad("page 2 1;front abc", code, 15);
        bad("page 2 1;front " + "a".repeat(380) + ";", code, 15);
    }

    private static void loadedWrongly() {
        LetterCuts x = new LetterCuts();
        Due.feed(x, "page 3 1;front abc;");
        due("load(-1)", () -> x.load(-1), ARGUMENT);
        due("load(21)", () -> x.load(21), ARGUMENT);
        due("load of the least int", () -> x.load(Integer.MIN_VALUE), ARGUMENT);
        due("load of the greatest int", () -> x.load(Integer.MAX_VALUE), ARGUMENT);
        due("the buffer is unchanged", () -> x.load(19), 3);
        Due.feed(x, "page 2 1;front abc;");
        due("load of the first bytes", () -> x.load(9), 2);
        due("the rest is gone", () -> x.load(1), ARGUMENT);
        Due.feed(x, "page 0 1;");
        due("an error", () -> x.load(9), LetterCuts.OUT_OF_RANGE);
        due("the buffer is empty after an error, too", () -> x.load(1), ARGUMENT);
        due("an empty text", () -> x.load(0), LetterCuts.SYNTAX_ERROR);
    }

    private static void errorOffsets() {
        promise = 4;
        LetterCuts x = new LetterCuts();
        Due.setup(x, "page 2 9;");
        due("errorOffset()", () -> x.errorOffset(), 7);
        due("a load that throws", () -> x.load(1), ARGUMENT);
        due("errorOffset() after a load that threw", () -> x.errorOffset(), 7);
        Due.setup(x, "page 2 1;");
        due("errorOffset() after a good load", () -> x.errorOffset(), -1);
        Due.setup(x, "page");
        due("errorOffset() of the latest load", () -> x.errorOffset(), 4);
        due("undo()", () -> x.undo(), 0);
        due("undo() leaves it", () -> x.errorOffset(), 4);
        x.least(2);
        due("a change leaves it", () -> x.errorOffset(), 4);
    }

    private static void states() {
        promise = 5;
        LetterCuts x = Due.with(SIX);
        Due.told(x, "abdx");
        int[] told = {3, 2, 2, 6, 4, 0, 0, 8};
        for (int what = 0; what < 8; what++) {
            int w = what;
            due("state(" + w + ")", () -> x.state(w), told[w]);
        }
        due("state(-1)", () -> x.state(-1), ARGUMENT);
        due("state(8)", () -> x.state(8), ARGUMENT);
        // ab and d of the front; then x of the back stands behind c.
        due("cut()", () -> x.cut(), 3);
        int[] cut = {3, 2, 2, 2, 4, 3, 4, 1};
        for (int what = 0; what < 8; what++) {
            int w = what;
            due("state(" + w + ") after cut()", () -> x.state(w), cut[w]);
        }
        due("snip(0, 5, 1)", () -> x.snip(0, 5, 1), 1);
        due("cuts", () -> x.state(5), 4);
        due("letters", () -> x.state(6), 5);
        due("letters that can be used", () -> x.state(7), 0);
        due("a load that fails", () -> x.load(0), -2);
        due("cuts since the latest successful load", () -> x.state(5), 4);
        Due.setup(x, SIX);
        due("cuts since load", () -> x.state(5), 0);
        due("letters since load", () -> x.state(6), 0);
    }

    private static void letters() {
        promise = 6;
        LetterCuts x = Due.with(SIX);
        int[][] want = {{0, 1, 2, 3, -1, 0}, {23, 24, 25, -1, 0, 1}};
        for (int side = 0; side < 2; side++) {
            for (int place = 0; place < 6; place++) {
                int s = side;
                int p = place;
                due("letter(" + s + ", " + p + ")", () -> x.letter(s, p), want[s][p]);
            }
        }
        for (int[] wrong : new int[][] {{-1, 0}, {2, 0}, {0, -1}, {0, 6}, {1, 6}, {1, -1}, {0, 1 << 30}, {1 << 31, 0}}) {
            due("letter(" + wrong[0] + ", " + wrong[1] + ")", () -> x.letter(wrong[0], wrong[1]), INDEX);
        }
        due("snip(1, 0, 1)", () -> x.snip(1, 0, 1), 5);
        due("the letter that was cut", () -> x.letter(1, 0), -2);
        due("the letter on its back", () -> x.letter(0, 2), -2);
        due("a letter beside it", () -> x.letter(0, 1), 1);
        due("snip(0, 5, 1)", () -> x.snip(0, 5, 1), 4);
        due("a blank place of a cell that is gone", () -> x.letter(1, 3), -2);
    }

    private static void places() {
        promise = 7;
        LetterCuts x = Due.with(SIX);
        Due.told(x, "abax");
        int[][][] want = {
            {{0, 1, 2, 3, 4, 5}, {2, 1, 0, 5, 4, 3}},
            {{2, 2, 2, 3, 3, 3}, {4, 4, 4, 1, 1, 1}},
            {{2, 1, 0, 5, 4, 3}, {2, 1, 0, 5, 4, 3}},
            {{1, 1, 1, 1, 0, 1}, {1, 1, 1, 0, 0, 0}},
            {{2, 1, 0, 0, 0, 2}, {1, 0, 0, 0, 2, 1}},
        };
        for (int i = 0; i < 5 * 2 * 6; i++) {
            int w = i / 12;
            int s = i / 6 % 2;
            int p = i % 6;
            due("place(" + s + ", " + p + ", " + w + ")", () -> x.place(s, p, w), want[w][s][p]);
        }
        due("place(0, 0, -1)", () -> x.place(0, 0, -1), ARGUMENT);
        due("place(0, 0, 5)", () -> x.place(0, 0, 5), ARGUMENT);
        due("place(2, 0, 0)", () -> x.place(2, 0, 0), INDEX);
        due("place(-1, 0, 0)", () -> x.place(-1, 0, 0), INDEX);
        due("place(0, 6, 0)", () -> x.place(0, 6, 0), INDEX);
        due("place(1, -1, 9)", () -> x.place(1, -1, 9), INDEX);
        due("snip(0, 0, 2)", () -> x.snip(0, 0, 2), 4);
        int[] gone = {0, 2, 2, 0, 2};
        for (int what = 0; what < 5; what++) {
            int w = what;
            due("place(0, 0, " + w + ") of a cell that is gone", () -> x.place(0, 0, w), gone[w]);
        }
        due("the back of a cell that is gone", () -> x.place(1, 2, 3), 0);
    }

    private static void stocks() {
        promise = 8;
        LetterCuts x = Due.with("page 3 2;front aab aaa;back aaa bba;sizes 2 2 2 1;least 2;");
        Due.told(x, "abba");
        due("stock(0, 0)", () -> x.stock(0, 0), 8);
        due("stock(0, 1): two of the cells have it on both sides, one on the back alone", () -> x.stock(0, 1), 6);
        due("stock(0, 2)", () -> x.stock(0, 2), 2);
        due("stock(1, 0): the second row of the back is too small", () -> x.stock(1, 0), 1);
        due("stock(1, 1)", () -> x.stock(1, 1), 1);
        due("stock(25, 0)", () -> x.stock(25, 0), 0);
        due("stock(25, 2)", () -> x.stock(25, 2), 0);
        due("stock(-1, 0)", () -> x.stock(-1, 0), ARGUMENT);
        due("stock(26, 0)", () -> x.stock(26, 0), ARGUMENT);
        due("stock(0, -1)", () -> x.stock(0, -1), ARGUMENT);
        due("stock(0, 3)", () -> x.stock(0, 3), ARGUMENT);
        x.snip(0, 0, 1);
        due("stock(0, 0) after a cut", () -> x.stock(0, 0), 6);
        due("stock(0, 1) after a cut", () -> x.stock(0, 1), 5);
        x.least(1);
        due("stock(1, 0) with a smaller least size", () -> x.stock(1, 0), 3);
    }

    private static void messages() {
        promise = 9;
        LetterCuts x = new LetterCuts();
        due("message(0) of an empty message", () -> x.message(0), ELEMENT);
        Due.told(x, "azm");
        due("message(0)", () -> x.message(0), 0);
        due("message(1)", () -> x.message(1), 25);
        due("message(2)", () -> x.message(2), 12);
        due("message(3)", () -> x.message(3), ELEMENT);
        due("message(-1)", () -> x.message(-1), ELEMENT);
        Due.told(x, "b");
        due("message(1) of a shorter message", () -> x.message(1), ELEMENT);
    }

    private static void missingLetters() {
        promise = 10;
        LetterCuts x = Due.with("page 3 1;front abc;back cab;");
        due("missing() of an empty message", () -> x.missing(), 0);
        // The cells have a and b, b and a, c and c.
        Object[][] due = {{"abc", 0}, {"aac", 0}, {"bbc", 0}, {"ab", 0}, {"aab", 1}, {"aaa", 1}, {"cc", 1}, {"acbc", 1},
            {"abab", 2}, {"z", 1}, {"cab", 0}, {"aaaaaaaaaaaaaaaaaaaaaaaa", 22}, {"ccccccccccccccccccccabcz", 21}};
        for (Object[] row : due) {
            due("tell(" + row[0] + ")", () -> Due.told(x, (String) row[0]), row[1]);
            due("missing() of " + row[0], () -> x.missing(), row[1]);
        }
        // The cells have a and b, b and c, c and d, a: letters must move until the last one has a cell.
        LetterCuts y = Due.with("page 4 1;front abca;back -dcb;");
        for (String order : new String[] {"abcd", "dcba", "bcda", "aabc", "abca", "baca", "cbaa", "bcad"}) {
            due("tell(" + order + ")", () -> Due.told(y, order), 0);
        }
        due("tell(aabcd)", () -> Due.told(y, "aabcd"), 1);
        Due.told(y, "abcd");
        y.least(2);
        due("missing() if no letter can be used", () -> y.missing(), 4);
        LetterCuts z = full();
        due("tell of 24 letters that are there", () -> Due.told(z, "a".repeat(24)), 0);
        due("tell of 24 letters but one", () -> Due.told(z, "a".repeat(23) + "x"), 1);
        // The cells have a and b, b and c, to w and x, then x: for the last a, all letters must move.
        LetterCuts w = Due.with("page 8 3;front abcdefgh ijklmnop qrstuvwx;back ihgfedcb qponmlkj -xwvutsr;");
        due("tell of a message all of whose letters move", () -> Due.told(w, "bcdefghijklmnopqrstuvwxa"), 0);
        w.snip(0, 23, 1);
        due("missing() without the last cell", () -> w.missing(), 1);
    }

    private static void fewestCuts() {
        promise = 11;
        LetterCuts x = Due.with("page 8 1;front abcdefgh;back abcdefgh;");
        due("fewest() of an empty message", () -> x.fewest(), 0);
        Object[][] due = {{"abcdefgh", 1}, {"a", 1}, {"cde", 1}, {"ba", 2}, {"abgh", 2}, {"hgfedcba", 8}, {"z", -1}, {"aaa", -1},
            {"aa", 2}, {"ahahz", -1}, {"ah", 2}, {"ahah", -1}, {"abcdefghi", -2}, {"aaaaaaaaa", -2}};
        for (Object[] row : due) {
            Due.told(x, (String) row[0]);
            due("fewest() of " + row[0], () -> x.fewest(), row[1]);
        }
        // The strips cd and ef of two sides are backs of one another, so one of them is cut letter by letter.
        LetterCuts y = Due.with("page 4 2;front cd-- efcd;back --ef ----;");
        Due.told(y, "cdef");
        due("fewest() of strips that can both be used", () -> y.fewest(), 2);
        y.snip(0, 4, 1);
        due("fewest() of a strip that lost a letter", () -> y.fewest(), 2);
        y.snip(0, 7, 1);
        due("fewest() of strips that cannot both be used", () -> y.fewest(), -1);
        LetterCuts z = Due.with("page 4 2;front ab-- c-d-;back --cd ----;");
        Due.told(z, "abcd");
        due("fewest() if c and d are cut alone", () -> z.fewest(), 3);
        LetterCuts w = Due.with("page 3 1;front aba;back ---;");
        Due.told(w, "ab");
        due("a strip is read from the left to the right", () -> w.fewest(), 1);
        Due.told(w, "ba");
        due("each strip from its first place", () -> w.fewest(), 1);
        LetterCuts v = Due.with("page 2 2;front ab cd;");
        Due.told(v, "bc");
        due("a strip does not go on in the next row", () -> v.fewest(), 2);
    }

    private static void plan(LetterCuts x, String message, int[]... cuts) {
        due("tell " + message, () -> Due.told(x, message), 0);
        due("fewest() of " + message, () -> x.fewest(), cuts.length);
        for (int i = 0; i < cuts.length; i++) {
            for (int what = 0; what < cuts[i].length; what++) {
                int k = i;
                int w = what;
                due("cutOf(" + k + ", " + w + ") of " + message, () -> x.cutOf(k, w), cuts[k][w]);
            }
        }
        due("no further cut of " + message, () -> x.cutOf(cuts.length, 0), ELEMENT);
    }

    private static void cutsOfPlans() {
        promise = 12;
        LetterCuts x = Due.with("page 4 2;front abcd efgh;back ijkl mnop;sizes 1 2 3 4;");
        due("cutOf(0, 0) of an empty message", () -> x.cutOf(0, 0), ELEMENT);
        plan(x, "bcd", new int[] {3, 0, 1, 3});
        plan(x, "ijkl", new int[] {4, 1, 0, 12});
        plan(x, "fghji", new int[] {3, 0, 5, 6}, new int[] {1, 1, 1, 3}, new int[] {1, 1, 0, 3});
        due("cutOf(-1, 0)", () -> x.cutOf(-1, 0), ELEMENT);
        due("cutOf(0, -1)", () -> x.cutOf(0, -1), ARGUMENT);
        due("cutOf(2, 4)", () -> x.cutOf(2, 4), ARGUMENT);
        due("cutOf(3, 4)", () -> x.cutOf(3, 4), ELEMENT);
        Due.told(x, "al");
        due("cutOf(0, 0) of letters that are backs of one another", () -> x.cutOf(0, 0), ELEMENT);
        Due.told(x, "abcdefghi");
        due("cutOf(0, 0) of nine letters", () -> x.cutOf(0, 0), ELEMENT);
    }

    private static void firstOfPlans() {
        LetterCuts x = Due.with("page 8 1;front aba-bab-;back b-------;");
        plan(x, "abab", new int[] {3, 0, 0, 3}, new int[] {1, 0, 4, 1});
        plan(x, "ab", new int[] {2, 0, 0, 2});
        plan(x, "bb", new int[] {1, 0, 1, 1}, new int[] {1, 0, 4, 1});
        plan(x, "bbbb", new int[] {1, 0, 1, 1}, new int[] {1, 0, 4, 1}, new int[] {1, 0, 6, 1}, new int[] {1, 1, 0, 1});
        LetterCuts y = Due.with("page 4 1;front -ab-;back ab-a;");
        plan(y, "ab", new int[] {2, 0, 1, 2});
        // The a of the front's place 1 is the back of nothing; the b of the back's place 1 is behind the b of place 2.
        plan(y, "aa", new int[] {1, 0, 1, 1}, new int[] {1, 1, 0, 1});
        // The first a has the only b on its back.
        LetterCuts z = Due.with("page 3 1;front a-a;back --b;");
        plan(z, "ab", new int[] {1, 0, 2, 1}, new int[] {1, 1, 2, 1});
        // The longer strip comes first even if it stands on the back.
        LetterCuts w = Due.with("page 4 2;front bc-- ab--;back abc- ----;");
        plan(w, "abc", new int[] {3, 1, 0, 3});
        plan(w, "aabc", new int[] {1, 0, 4, 1}, new int[] {3, 1, 0, 3});
        plan(w, "abca", new int[] {3, 1, 0, 3}, new int[] {1, 0, 4, 1});
        LetterCuts u = full();
        plan(u, "yz", new int[] {2, 1, 46, 2});
        plan(u, "z", new int[] {1, 1, 47, 1});
        plan(u, "zy", new int[] {1, 1, 47, 1}, new int[] {1, 1, 46, 1});
        // Fewer cuts come ahead of a longer first strip.
        LetterCuts v = Due.with("page 6 2;front abc--- ab----;back cdef-- ------;");
        plan(v, "abcdef", new int[] {2, 0, 0, 2}, new int[] {4, 1, 0, 4});
    }

    private static void unevennesses() {
        promise = 13;
        LetterCuts x = Due.with("page 4 2;front abcd efgh;back ijkl mnop;sizes 1 9 3 4;");
        due("unevenness() of an empty message", () -> x.unevenness(), 0);
        Object[][] due = {{"a", 0}, {"abcd", 0}, {"abef", 8}, {"aei", 14}, {"eia", 8}, {"bam", 3}, {"aea", -1}, {"efa", 8},
            {"abcdefghi", -1}, {"aeifjb", 28}, {"aejf", 20}};
        for (Object[] row : due) {
            Due.told(x, (String) row[0]);
            due("unevenness() of " + row[0], () -> x.unevenness(), row[1]);
        }
    }

    private static void copiesForetold() {
        promise = 14;
        LetterCuts x = Due.with("page 8 1;front aaaaaaab;back b-------;");
        due("copies() of an empty message", () -> x.copies(), 0);
        Object[][] due = {{"a", 7}, {"aa", 3}, {"aaa", 2}, {"aaaa", 1}, {"aaaaaaa", 1}, {"aaaaaaaa", 0}, {"ab", 1}, {"b", 1}, {"c", 0},
            {"aaaaaaaaa", 0}};
        for (Object[] row : due) {
            Due.told(x, (String) row[0]);
            due("copies() of " + row[0], () -> x.copies(), row[1]);
            due("copies() of " + row[0] + " again", () -> x.copies(), row[1]);
        }
        Due.told(x, "aa");
        due("copies() only foretells", () -> x.copies(), 3);
        due("cells that are there", () -> x.state(3), 8);
        due("the plan is still the first one", () -> x.cutOf(0, 2), 0);
        // The best plan takes the cells of both other copies.
        LetterCuts y = Due.with("page 4 2;front ab-- a-b-;back --ab ----;");
        Due.told(y, "ab");
        due("copies() by best plans", () -> y.copies(), 2);
        LetterCuts z = Due.with("page 8 6;front aaaaaaaa aaaaaaaa aaaaaaaa aaaaaaaa aaaaaaaa aaaaaaaa;");
        Due.told(z, "a");
        due("copies() of the greatest sheet", () -> z.copies(), 48);
    }

    private static void longestStrips() {
        promise = 15;
        LetterCuts x = Due.with("page 8 2;front abcdefgh abx-----;back cde----- --------;sizes 1 2 3 3;");
        due("longest(0) of an empty message", () -> x.longest(0), ELEMENT);
        Due.told(x, "abcdefgh");
        for (int from = 0; from < 8; from++) {
            int f = from;
            due("longest(" + f + ")", () -> x.longest(f), 8 - f);
        }
        due("longest(8)", () -> x.longest(8), ELEMENT);
        due("longest(-1)", () -> x.longest(-1), ELEMENT);
        x.least(2);
        int[] want = {2, 1, 3, 2, 1, 0, 0, 0};
        for (int from = 0; from < 8; from++) {
            int f = from;
            due("longest(" + f + ") with a greater least size", () -> x.longest(f), want[f]);
        }
        Due.told(x, "zzzzzzzzzzzzzzzzzzzzzcde");
        due("longest(21) of a long message", () -> x.longest(21), 3);
        due("longest(23) of a long message", () -> x.longest(23), 1);
        due("longest(20) of a long message", () -> x.longest(20), 0);
        x.snip(1, 1, 1);
        due("longest(21) after a cut", () -> x.longest(21), 1);
        LetterCuts y = Due.with("page 2 2;front ab cd;");
        Due.told(y, "abcd");
        due("a strip ends with its row", () -> y.longest(0), 2);
        Due.told(y, "bcd");
        due("a strip ends with its row, also from its last place", () -> y.longest(0), 1);
        LetterCuts z = Due.with("page 8 6;front -------- -------- -------- -------- -------- -------a;"
                + "back a------- -------- -------- -------- -------- --------;");
        Due.told(z, "aa");
        due("the last place of the front and the first of the back are not neighbours", () -> z.longest(0), 1);
    }

    private static void clashing() {
        promise = 16;
        LetterCuts x = Due.with("page 3 2;front aab b-a;back abx aaa;sizes 2 2 2 1;");
        due("clashes() of an empty message", () -> x.clashes(), 0);
        // The cells have a and x, a and b, b and a; b and a, - and a, a and a.
        Object[][] due = {{"a", 1}, {"ab", 4}, {"ax", 2}, {"abx", 5}, {"b", 0}, {"zzzzzzzzzzzzzzzzzzzzzzab", 4}};
        for (Object[] row : due) {
            Due.told(x, (String) row[0]);
            due("clashes() of " + row[0], () -> x.clashes(), row[1]);
        }
        x.least(2);
        due("clashes() with a greater least size", () -> x.clashes(), 2);
        x.snip(0, 1, 1);
        due("clashes() after a cut", () -> x.clashes(), 1);
    }

    private static void meanSizes() {
        promise = 17;
        LetterCuts x = Due.with("page 4 2;front abcd efgh;back ijkl mnop;sizes 1 9 3 4;");
        due("meanSize() of an empty message", () -> x.meanSize(), 0.0);
        Object[][] due = {{"abcd", 1.0}, {"ae", 5.0}, {"aei", 13.0 / 3.0}, {"aaa", 0.0}, {"abcdefghi", 0.0}, {"abe", 11.0 / 3.0},
            {"e", 9.0}, {"abcdefg", 31.0 / 7.0}};
        for (Object[] row : due) {
            Due.told(x, (String) row[0]);
            due("meanSize() of " + row[0], () -> x.meanSize(), row[1]);
        }
    }

    private static void tellings() {
        promise = 18;
        LetterCuts x = Due.with("page 3 1;front abc;");
        Due.feed(x, "abz/");
        due("tell(0)", () -> x.tell(0), ARGUMENT);
        due("tell(-1)", () -> x.tell(-1), ARGUMENT);
        due("tell(4)", () -> x.tell(4), ARGUMENT);
        due("tell(21)", () -> x.tell(21), ARGUMENT);
        due("no message yet", () -> x.state(4), 0);
        due("the buffer was unchanged: tell(3)", () -> x.tell(3), 1);
        due("the buffer is empty afterwards", () -> x.tell(1), ARGUMENT);
        for (String wrong : new String[] {"`", "{", "A", " ", "-", "0", "\u00e1", "\0"}) {
            Due.feed(x, "a" + wrong);
            due("tell(2) with a '" + wrong + "'", () -> x.tell(2), ARGUMENT);
            due("tell(1) ahead of a '" + wrong + "'", () -> x.tell(1), 0);
        }
        Due.feed(x, "abcdefghijklmnopqrstuvwxyzab");
        due("tell(25)", () -> x.tell(25), ARGUMENT);
        due("tell(24)", () -> x.tell(24), 21);
        due("the message has 24 letters", () -> x.message(23), 23);
        due("the message", () -> x.state(4), 24);
        due("a telling is a change", () -> x.undo(), 7);
        due("the message of before", () -> x.state(4), 1);
        LetterCuts y = new LetterCuts();
        due("tell(1) of an empty buffer", () -> y.tell(1), ARGUMENT);
        due("tell() that threw is no change", () -> y.undo(), -1);
    }

    private static void cuttings() {
        promise = 19;
        LetterCuts x = Due.with("page 4 2;front abcd efgh;back ijkl mnop;");
        due("cut() of an empty message", () -> x.cut(), STATE);
        Due.told(x, "bcm");
        due("cut()", () -> x.cut(), 2);
        int[] front = {0, -2, -2, 3, 4, 5, 6, -2};
        int[] back = {8, -2, -2, 11, -2, 13, 14, 15};
        for (int place = 0; place < 8; place++) {
            int p = place;
            due("letter(0, " + p + ") after cut()", () -> x.letter(0, p), front[p]);
            due("letter(1, " + p + ") after cut()", () -> x.letter(1, p), back[p]);
        }
        due("the message stays", () -> x.state(4), 3);
        due("cuts made", () -> x.state(5), 2);
        due("letters cut", () -> x.state(6), 3);
        due("cut() again", () -> x.cut(), STATE);
        due("a cut that threw changes nothing", () -> x.state(5), 2);
        Due.told(x, "abcdefghi");
        due("cut() of nine letters", () -> x.cut(), STATE);
        Due.told(x, "a");
        due("cut() of a letter", () -> x.cut(), 1);
        due("cuts add up", () -> x.state(5), 3);
        due("undo() of a cut", () -> x.undo(), 5);
        due("its cell is there again", () -> x.letter(0, 0), 0);
        due("its cut does not count", () -> x.state(5), 2);
    }

    private static void snippings() {
        promise = 20;
        LetterCuts x = Due.with("page 4 2;front abcd ef-h;back ijkl mnop;sizes 2 2 2 1;least 2;");
        due("snip(2, 0, 1)", () -> x.snip(2, 0, 1), INDEX);
        due("snip(-1, 0, 0)", () -> x.snip(-1, 0, 0), INDEX);
        due("snip(0, 8, 9)", () -> x.snip(0, 8, 9), INDEX);
        due("snip(0, -1, 1)", () -> x.snip(0, -1, 1), INDEX);
        due("snip(0, 0, 0)", () -> x.snip(0, 0, 0), ARGUMENT);
        due("snip(0, 6, 9)", () -> x.snip(0, 6, 9), ARGUMENT);
        due("snip(0, 0, -1)", () -> x.snip(0, 0, -1), ARGUMENT);
        due("snip(0, 0, greatest int)", () -> x.snip(0, 0, Integer.MAX_VALUE), ARGUMENT);
        due("snip(0, 0, 5): over the end of the row", () -> x.snip(0, 0, 5), STATE);
        due("snip(0, 3, 2): over the end of the row", () -> x.snip(0, 3, 2), STATE);
        due("snip(0, 4, 3): a blank place", () -> x.snip(0, 4, 3), STATE);
        due("snip(0, 6, 1): a blank place", () -> x.snip(0, 6, 1), STATE);
        due("snip(1, 4, 1): too small", () -> x.snip(1, 4, 1), STATE);
        due("nothing changed", () -> x.undo(), 0);
        Due.setup(x, "page 4 2;front abcd ef-h;back ijkl mnop;sizes 2 2 2 1;least 2;");
        due("snip(1, 0, 2)", () -> x.snip(1, 0, 2), 6);
        due("its cells are gone", () -> x.letter(0, 3), -2);
        due("its cells are gone, both", () -> x.letter(0, 2), -2);
        due("the next cell is there", () -> x.letter(0, 1), 1);
        due("one cut", () -> x.state(5), 1);
        due("two letters", () -> x.state(6), 2);
        due("snip(0, 1, 2): a cell is gone", () -> x.snip(0, 1, 2), STATE);
        due("snip(0, 0, 2)", () -> x.snip(0, 0, 2), 4);
        due("snip(0, 7, 1)", () -> x.snip(0, 7, 1), 3);
        due("undo()", () -> x.undo(), 3);
        due("the cell is there", () -> x.letter(0, 7), 7);
        LetterCuts y = Due.with("page 8 1;front abcdefgh;");
        due("snip(0, 0, 8)", () -> y.snip(0, 0, 8), 0);
        LetterCuts z = full();
        due("snip(0, 7, 2): over the end of the widest row", () -> z.snip(0, 7, 2), STATE);
        due("snip(0, 1, 8): over the end of the widest row", () -> z.snip(0, 1, 8), STATE);
        due("snip(0, 47, 2): over the end of the front", () -> z.snip(0, 47, 2), STATE);
        due("snip(1, 47, 2): over the end of the back", () -> z.snip(1, 47, 2), STATE);
        due("snip(1, 47, 1)", () -> z.snip(1, 47, 1), 47);
        due("the front of the last place of the back", () -> z.letter(0, 40), -2);
        due("snip(0, 0, 8) of the widest row", () -> z.snip(0, 0, 8), 39);
    }

    private static LetterCuts full() {
        return Due.with("page 8 6;front " + "aaaaaaaa ".repeat(6) + ";back " + "bbbbbbbb ".repeat(5) + "bbbbbbyz;");
    }

    private static void leastSizes() {
        promise = 21;
        LetterCuts x = Due.with("page 1 1;front a;back b;sizes 5 9;least 3;");
        due("least(0)", () -> x.least(0), ARGUMENT);
        due("least(10)", () -> x.least(10), ARGUMENT);
        due("least(-1)", () -> x.least(-1), ARGUMENT);
        due("least(5)", () -> x.least(5), 3);
        due("a size that is the least one can be used", () -> x.state(7), 2);
        due("least(6)", () -> x.least(6), 5);
        due("one letter is left", () -> x.state(7), 1);
        due("least(9)", () -> x.least(9), 6);
        due("b can be used", () -> x.place(1, 0, 3), 1);
        due("least(1)", () -> x.least(1), 9);
        due("state(2)", () -> x.state(2), 1);
        due("a plan after it", () -> Due.told(x, "a"), 0);
        due("fewest()", () -> x.fewest(), 1);
        x.least(6);
        due("fewest() after least(6)", () -> x.fewest(), -1);
    }

    private static void mendings() {
        promise = 22;
        LetterCuts x = Due.with("page 3 2;front abc def;back ghi jkl;");
        due("mend(-1)", () -> x.mend(-1), INDEX);
        due("mend(6)", () -> x.mend(6), INDEX);
        due("mend(0)", () -> x.mend(0), STATE);
        x.snip(1, 3, 2);
        due("mend(3)", () -> x.mend(3), STATE);
        due("mend(5)", () -> x.mend(5), 5);
        due("the letter is there again", () -> x.letter(0, 5), 5);
        due("and its back", () -> x.letter(1, 3), 9);
        due("the other one is gone", () -> x.letter(0, 4), -2);
        due("mend(5) again", () -> x.mend(5), STATE);
        due("mend(4)", () -> x.mend(4), 6);
        due("cuts stay", () -> x.state(5), 1);
        due("letters stay", () -> x.state(6), 2);
        due("undo()", () -> x.undo(), 3);
        due("it is gone again", () -> x.letter(0, 4), -2);
    }

    private static void undoings() {
        promise = 23;
        LetterCuts x = Due.with("page 2 1;front ab;back cd;sizes 2 3;");
        long[] sums = new long[6];
        sums[0] = x.checksum();
        Due.told(x, "ab");
        sums[1] = x.checksum();
        x.cut();
        sums[2] = x.checksum();
        x.mend(1);
        sums[3] = x.checksum();
        x.least(3);
        sums[4] = x.checksum();
        x.snip(1, 0, 1);
        sums[5] = x.checksum();
        for (int i = 5; i > 0; i--) {
            int left = i;
            due("checksum() ahead of undo()", () -> x.checksum(), sums[left]);
            due("undo()", () -> x.undo(), left);
        }
        due("checksum()", () -> x.checksum(), sums[0]);
        due("undo() of the load", () -> x.undo(), 0);
        due("checksum() of a new object", () -> x.checksum(), new LetterCuts().checksum());
        due("undo() of nothing", () -> x.undo(), -1);
        Due.feed(x, "page 2 1;");
        due("undo() of nothing leaves the buffer", () -> x.undo(), -1);
        due("the buffer is there", () -> x.load(9), 2);
        Due.feed(x, "page 3 1;");
        due("undo() leaves the buffer", () -> x.undo(), 0);
        due("the buffer is there still", () -> x.load(9), 3);
        LetterCuts y = Due.with("page 1 1;front a;");
        Due.told(y, "a");
        y.cut();
        Due.setup(y, "page 1 1;");
        due("cuts after load", () -> y.state(5), 0);
        due("undo() of a load", () -> y.undo(), 3);
        due("cuts before load", () -> y.state(5), 1);
    }

    private static void undoLimits() {
        LetterCuts x = new LetterCuts();
        for (int i = 0; i < 12; i++) {
            x.least(1 + i % 9);
        }
        // Least sizes were 1 to 9, then 1 to 3; the first four changes are final.
        int[] before = {2, 1, 9, 8, 7, 6, 5, 4};
        for (int i = 0; i < 8; i++) {
            int k = i;
            due("undo() " + k + " of 8", () -> x.undo(), 7 - k);
            due("least size after it", () -> x.state(2), before[k]);
        }
        due("undo() of a final change", () -> x.undo(), -1);
        due("least size", () -> x.state(2), 4);
        for (int i = 0; i < 8; i++) {
            x.least(4);
        }
        due("changes that change nothing count, too", () -> x.undo(), 7);
        due("undo()", () -> x.undo(), 6);
        x.least(7);
        x.least(8);
        x.least(9);
        due("undo() of a change behind undone ones", () -> x.undo(), 7);
        due("least size behind undone ones", () -> x.state(2), 8);
        LetterCuts y = new LetterCuts();
        Due.told(y, "a");
        due("a call that throws", () -> y.least(0), ARGUMENT);
        due("a call that throws is no change", () -> y.undo(), 0);
    }

    private static void checksums() {
        promise = 24;
        LetterCuts x = new LetterCuts();
        due("checksum() of a new object", () -> x.checksum(), sumOf(x));
        Due.setup(x, SIX);
        due("checksum() of a sheet", () -> x.checksum(), sumOf(x));
        Due.told(x, "abza");
        due("checksum() with a message", () -> x.checksum(), sumOf(x));
        Due.told(x, "abx");
        due("checksum() with a plan", () -> x.checksum(), sumOf(x));
        x.cut();
        due("checksum() after a cut", () -> x.checksum(), sumOf(x));
        Due.told(x, "abcdabcdabcd");
        due("checksum() with a long message", () -> x.checksum(), sumOf(x));
        Due.setup(x, "page 8 6;front " + "abcdefgh ".repeat(6) + ";back " + "qrstuvwx ".repeat(6) + ";");
        due("checksum() of the greatest sheet", () -> x.checksum(), sumOf(x));
        // 1 1 1 1 0 0 0 0, a blank place of size 1 on either side, 0 0 0.
        int[] numbers = {1, 1, 1, 1, 0, 0, 0, 0, -1, 1, -1, 1, 0, 0, 0};
        long sum = 0;
        for (int n : numbers) {
            sum = sum * 31 + n;
        }
        long want = sum;
        due("checksum() by its numbers", () -> new LetterCuts().checksum(), want);
    }

    private static long sumOf(LetterCuts x) {
        long sum = 0;
        for (int what = 0; what < 8; what++) {
            sum = sum * 31 + x.state(what);
        }
        int cells = x.state(0) * x.state(1);
        for (int i = 0; i < 2 * cells; i++) {
            sum = sum * 31 + x.letter(i / cells, i % cells);
            sum = sum * 31 + x.place(i / cells, i % cells, 1);
        }
        for (int k = 0; k < x.state(4); k++) {
            sum = sum * 31 + x.message(k);
        }
        sum = sum * 31 + x.missing();
        sum = sum * 31 + x.fewest();
        return sum * 31 + x.clashes();
    }
}

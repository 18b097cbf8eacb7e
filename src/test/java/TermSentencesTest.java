/** A test for each sentence of the document's Terms that can be broken: the boundary cases that it names. */
public final class TermSentencesTest {
    private static final String INDEX = Asked.INDEX;
    private static final String ARGUMENT = Asked.ARGUMENT;
    private static final String STATE = Asked.STATE;
    private static final String ELEMENT = Asked.ELEMENT;

    private static final int SYNTAX_ERROR = -2;
    private static final int OUT_OF_RANGE = -3;
    private static final int WRONG_WIDTH = -4;

    private static final String WIDE_BLANK = "-------- ";

    private TermSentencesTest() {
    }

    public static void main(String[] args) {
        run();
        Sentences.compareWithDocument();
        Due.finish();
    }

    static void run() {
        Sentences.in("What it is");
        life();
        Sentences.in("Terms");
        Sentences.leaves("Conventions:", "All numbers are integers, except where double is named.");
        letterNumbers();
        Sentences.leaves("The sheet:");
        sidesAndSizes();
        placesAndCells();
        lettersThatCanBeUsed();
        Sentences.leaves("Cuts:");
        strips();
        messages();
        plans();
        orderOfPlans();
        longMessages();
        missingLetters();
        Sentences.leaves("Setup text:");
        inputBuffer();
        grammar();
        tokens();
        spaces();
        meaningOfLines();
        meaningOfNumbers();
        firstErrors();
        syntaxErrors();
        otherErrors();
        Sentences.leaves("Changes:");
        changes();
        undoLimits();
        beforeTheFirstLoad();
        wrongIndexes();
        orderOfExceptions();
        exceptionsChangeNothing();
        constants();
    }

    private static void life() {
        Sentences.leaves("Letters cut from one sheet of a newspaper for a prank: a front and a back with letters of"
                + " sizes, strips that are cut at once, cells whose two sides cannot both be used, messages that are"
                + " told, the fewest cuts, what is missing by a matching, copies, and cuts that are made.");
        Sentences.says("An object is used for at most 512 calls after it has been made;");
        Asked x = Asked.with("page 3 1;front abc;");
        // The load took two calls.
        for (int call = 3; call <= 508; call++) {
            x.least(1 + call % 9, 1 + (call == 3 ? 0 : (call - 1) % 9));
        }
        x.least(1, 1 + 508 % 9);
        x.snip(0, 0, 3, 0);
        x.undo(7);
        x.state(3, 3);
        Sentences.leaves("what later calls answer is free.");
    }

    private static void letterNumbers() {
        Sentences.says("Letters are numbered from 0 for a to 25 for z.");
        Asked x = Asked.with("page 2 1;front az;back zy;");
        x.letter(0, 0, 0);
        x.letter(0, 1, 25);
        x.letter(1, 1, 24);
        x.tell("zab", 1);
        x.message(0, 25);
        x.message(1, 0);
        x.stock(0, 0, 1);
        x.stock(25, 0, 2);
        x.stock(25, 2, 1);
    }

    private static void sidesAndSizes() {
        Sentences.says("The sheet has a width (1 to 8) and a height (1 to 6) of cells.");
        for (int width = 1; width <= 8; width++) {
            for (int height = 1; height <= 6; height++) {
                Asked x = Asked.with("page " + width + " " + height + ";");
                x.states(width, height, 1, width * height);
                x.letter(1, width * height - 1, -1);
                x.letter(0, width * height, INDEX);
            }
        }
        fails("page 0 1;", OUT_OF_RANGE, 5);
        fails("page 9 1;", OUT_OF_RANGE, 5);
        fails("page 1 0;", OUT_OF_RANGE, 7);
        fails("page 1 7;", OUT_OF_RANGE, 7);
        fails("page 8 8;", OUT_OF_RANGE, 7);
        Sentences.says("It has two sides, 0 the front and 1 the back.");
        Asked x = Asked.with("page 1 1;front a;back b;");
        x.letter(0, 0, 0);
        x.letter(1, 0, 1);
        x.letter(-1, 0, INDEX);
        x.letter(2, 0, INDEX);
        Sentences.says("each row of each side has a size (1 to 9), which is that of its letters.");
        Asked y = Asked.with("page 2 2;front aa aa;back aa aa;sizes 1 9 8 2;");
        int[][] want = {{1, 1, 9, 9}, {8, 8, 2, 2}};
        for (int i = 0; i < 8; i++) {
            y.place(i / 4, i % 4, 1, want[i / 4][i % 4]);
        }
        fails("page 1 1;sizes 0 1;", OUT_OF_RANGE, 15);
        fails("page 1 1;sizes 1 0;", OUT_OF_RANGE, 17);
        fails("page 1 1;sizes 10 1;", OUT_OF_RANGE, 15);
        fails("page 1 1;sizes 9 10;", OUT_OF_RANGE, 17);
    }

    private static void placesAndCells() {
        Sentences.says("On each side a place has a column from 0, from the left as one looks at this side, and a row"
                + " from 0, from the top; its number is row * width + column.");
        Asked x = Asked.with("page 3 2;front abc def;back ghi jkl;");
        x.letters(0, "abcdef");
        x.letters(1, "ghijkl");
        Asked tall = Asked.with("page 1 6;front a b c d e f;");
        tall.letters(0, "abcdef");
        Asked wide = Asked.with("page 8 1;front abcdefgh;back hgfedcba;");
        wide.letters(0, "abcdefgh");
        wide.letters(1, "hgfedcba");
        Asked full = Asked.with("page 8 6;front " + "aaaaaaab ".repeat(6) + ";");
        full.letter(0, 40, 0);
        full.letter(0, 47, 1);
        Sentences.says("The sheet is turned over like a page: the place of the back with the column c lies behind"
                + " the place of the front with the column width - 1 - c and the same row;");
        for (int width = 1; width <= 8; width++) {
            Asked y = Asked.with("page " + width + " 6;");
            for (int place = 0; place < 6 * width; place++) {
                int behind = place / width * width + width - 1 - place % width;
                y.place(0, place, 2, behind);
                y.place(1, place, 2, behind);
            }
        }
        Sentences.says("both belong to one cell.");
        x.snip(0, 2, 1, 5);
        x.letters(0, "ab.def");
        x.letters(1, ".hijkl");
        x.snip(1, 5, 1, 4);
        x.letters(0, "ab..ef");
        x.letters(1, ".hijk.");
        Sentences.says("The index of a cell is the number of its place on the front.");
        for (int place = 0; place < 6; place++) {
            x.place(0, place, 0, place);
            x.place(1, place, 0, place < 3 ? 2 - place : 8 - place);
        }
        x.mend(0, STATE);
        x.mend(2, 5);
        x.mend(5, STATE);
        x.mend(3, 6);
    }

    private static void lettersThatCanBeUsed() {
        Sentences.says("Each place has a letter or is blank;");
        Asked x = Asked.with("page 3 1;front a-z;");
        x.letters(0, "a-z");
        x.letters(1, "---");
        x.place(0, 1, 3, 0);
        x.state(7, 2);
        Sentences.says("A cell is there, or it is gone: then both of its places are.");
        x.snip(0, 0, 1, 2);
        x.letters(0, ".-z");
        x.letters(1, "--.");
        x.state(3, 2);
        x.mend(0, 3);
        x.letters(0, "a-z");
        x.letters(1, "---");
        Sentences.says("A letter can be used if its cell is there and its size is at least the least size (1 to 9).");
        Asked y = Asked.with("page 2 1;front aa;back bb;sizes 9 8;least 9;");
        y.place(0, 0, 3, 1);
        y.place(1, 0, 3, 0);
        y.snip(1, 0, 1, STATE);
        y.least(8, 9);
        y.place(1, 0, 3, 1);
        y.state(7, 4);
        y.snip(1, 0, 1, 1);
        y.place(1, 0, 3, 0);
        y.place(0, 1, 3, 0);
        y.state(7, 2);
        y.least(0, ARGUMENT);
        y.least(10, ARGUMENT);
        fails("page 1 1;least 0;", OUT_OF_RANGE, 15);
        fails("page 1 1;least 10;", OUT_OF_RANGE, 15);
    }

    private static void strips() {
        Sentences.says("A strip is a row of places of one side, side by side in one row, from the left to the right,"
                + " each with a letter that can be used.");
        Asked x = Asked.with("page 8 6;front -------- " + WIDE_BLANK.repeat(3) + "-abcdefg haa-a--b;"
                + "back cd------ -----fgh ---hgf-- ----xxx- " + WIDE_BLANK.repeat(2)
                + ";sizes 2 2 2 2 2 2 2 2 2 1 2 2;least 2;");
        // The last places of one row and the first one of the next, then of one side and the other.
        x.tell("gh", 0);
        x.longest(0, 2);
        x.plan("gh", Asked.cut(2, 1, 14));
        x.snip(1, 15, 1, 47);
        x.longest(0, 1);
        x.snip(0, 39, 2, STATE);
        x.tell("bc", 0);
        x.longest(0, 2);
        x.snip(0, 34, 2, 45);
        x.longest(0, 1);
        x.snip(0, 47, 2, STATE);
        // From the right to the left.
        x.tell("hgf", 0);
        x.longest(0, 3);
        x.tell("fgh", 0);
        x.longest(0, 2);
        // A blank place in between, letters that are too small, then a cell that is gone.
        x.tell("aaa", 0);
        x.longest(0, 2);
        x.snip(0, 41, 4, STATE);
        x.snip(0, 42, 2, STATE);
        x.tell("xx", 2);
        x.longest(0, 0);
        x.snip(1, 28, 1, STATE);
        x.snip(0, 41, 1, 44);
        x.longest(0, 0);
        x.tell("aa", 0);
        x.longest(0, 1);
        x.snip(0, 41, 2, STATE);
        Sentences.says("A cut takes a strip.");
        Asked y = Asked.with("page 5 1;front abcde;back fghij;");
        y.snip(0, 1, 3, 2);
        y.letters(0, "a...e");
        y.letters(1, "f...j");
        y.tell("ae", 0);
        y.cut(2);
        y.letters(0, ".....");
    }

    private static void messages() {
        Sentences.says("A message has 1 to 24 letters.");
        Asked x = new Asked();
        x.feed("a".repeat(40));
        x.tell(0, ARGUMENT);
        x.tell(25, ARGUMENT);
        x.tell(24, 24);
        x.state(4, 24);
        x.message(23, 0);
        x.tell("a", 1);
        x.state(4, 1);
    }

    private static void plans() {
        Sentences.says("A plan for it is a row of cuts whose letters, one strip behind the other, are those of the"
                + " message,");
        Asked x = Asked.with("page 4 2;front abc- --d-;");
        x.plan("dabc", Asked.cut(1, 0, 6), Asked.cut(3, 0, 0));
        x.plan("bcda", Asked.cut(2, 0, 1), Asked.cut(1, 0, 6), Asked.cut(1, 0, 0));
        x.plan("a", Asked.cut(1, 0, 0));
        x.tell("abcde", 1);
        x.fewest(-1);
        x.cutOf(0, 0, ELEMENT);
        Sentences.says("and of which no two take the same cell (so no two letters are backs of one another).");
        Asked one = Asked.with("page 1 1;front a;back b;");
        one.tell("a", 0);
        one.fewest(1);
        one.tell("ab", 1);
        one.fewest(-1);
        one.tell("aa", 1);
        one.fewest(-1);
        // The a of the front is the back of the only b, so the other a is taken.
        Asked y = Asked.with("page 3 1;front a-a;back --b;");
        y.plan("ab", Asked.cut(1, 0, 2), Asked.cut(1, 1, 2));
        y.plan("ba", Asked.cut(1, 1, 2), Asked.cut(1, 0, 2));
        y.tell("aab", 1);
        y.fewest(-1);
        // Both strips stand behind the cell in the middle.
        Asked z = Asked.with("page 3 2;front ab- -b-;back dc- ---;");
        z.plan("dcb", Asked.cut(2, 1, 0), Asked.cut(1, 0, 4));
        z.tell("abdc", 0);
        z.fewest(3);
    }

    private static void orderOfPlans() {
        Sentences.says("The best plan is the one with the fewest cuts;");
        // The d behind the c of abc is taken by cde alone: abc goes with d and e, ab with cde.
        Asked x = Asked.with("page 8 2;front abc----- ab-d-e--;back ----cde- --------;");
        x.plan("abcde", Asked.cut(2, 0, 8), Asked.cut(3, 1, 4));
        x.snip(1, 6, 1, 15);
        x.fewest(3);
        // The same with the back's letters on the front, from the first place on, and behind another cut.
        Asked first = Asked.with("page 8 2;front cde----- ab-d-e-x;back ----abc- --------;");
        first.plan("abcde", Asked.cut(2, 0, 8), Asked.cut(3, 0, 0));
        first.plan("xabcde", Asked.cut(1, 0, 15), Asked.cut(2, 0, 8), Asked.cut(3, 0, 0));
        // The first x is behind the b of ab.
        Asked second = Asked.with("page 4 2;front x--- x---;back --ab ---b;");
        second.plan("xab", Asked.cut(1, 0, 4), Asked.cut(2, 1, 2));
        // The only x is behind the b of ab, so no strip is left.
        Asked alone = Asked.with("page 4 2;front ab-- a-b-;back --x- ----;");
        alone.plan("xab", Asked.cut(1, 1, 2), Asked.cut(1, 0, 0), Asked.cut(1, 0, 6));
        alone.plan("abx", Asked.cut(1, 0, 0), Asked.cut(1, 0, 6), Asked.cut(1, 1, 2));
        Sentences.says("of several the first one, if they are compared cut by cut:");
        Asked y = Asked.with("page 8 1;front -a--a-a-;");
        y.plan("aa", Asked.cut(1, 0, 1), Asked.cut(1, 0, 4));
        y.plan("aaa", Asked.cut(1, 0, 1), Asked.cut(1, 0, 4), Asked.cut(1, 0, 6));
        // After the same first cut the second ones are compared.
        Asked z = Asked.with("page 8 2;front x-ab-cd- abc-bcd-;back d------- --------;");
        z.plan("xabcd", Asked.cut(1, 0, 0), Asked.cut(3, 0, 8), Asked.cut(1, 0, 6));
        z.plan("abcd", Asked.cut(3, 0, 8), Asked.cut(1, 0, 6));
        Sentences.says("the longer strip is ahead,");
        Asked w = Asked.with("page 4 3;front ab-- cd-- ----;back ---- d--- abc-;");
        w.plan("abcd", Asked.cut(3, 1, 8), Asked.cut(1, 0, 5));
        w.plan("ab", Asked.cut(2, 0, 0));
        Sentences.says("then the one on the front,");
        Asked v = Asked.with("page 4 2;front ---- --ab;back ab-- ----;");
        v.plan("ab", Asked.cut(2, 0, 6));
        v.plan("b", Asked.cut(1, 0, 7));
        v.plan("bb", Asked.cut(1, 0, 7), Asked.cut(1, 1, 1));
        Sentences.says("then the one whose first place has the smaller number.");
        Asked u = Asked.with("page 8 6;front ------ab " + "ab------ ".repeat(2) + WIDE_BLANK.repeat(3) + ";"
                + "back " + WIDE_BLANK.repeat(4) + "-------z z------z;");
        u.plan("ab", Asked.cut(2, 0, 6));
        u.plan("abab", Asked.cut(2, 0, 6), Asked.cut(2, 0, 8));
        u.plan("ba", Asked.cut(1, 0, 7), Asked.cut(1, 0, 6));
        u.plan("zzz", Asked.cut(1, 1, 39), Asked.cut(1, 1, 40), Asked.cut(1, 1, 47));
        Asked t = Asked.with("page 3 2;front --a a--;");
        t.plan("a", Asked.cut(1, 0, 2));
    }

    private static void longMessages() {
        Sentences.says("It is told for messages of at most 8 letters only; with more there is no best plan (fewest()"
                + " tells -2).");
        Asked x = Asked.with("page 8 2;front abcdefgh i-------;");
        x.tell("abcdefg", 0);
        x.fewest(1);
        x.tell("abcdefgh", 0);
        x.fewest(1);
        x.cutOf(0, 0, 8);
        x.tell("abcdefghi", 0);
        x.fewest(-2);
        x.cutOf(0, 0, ELEMENT);
        x.unevenness(-1);
        x.copies(0);
        x.meanSize(0.0);
        x.cut(STATE);
        x.tell("z".repeat(24), 24);
        x.fewest(-2);
    }

    private static void missingLetters() {
        Sentences.says("What is missing of a message is its length less the greatest number of its letters (each"
                + " place of the message once) to which different cells can be given, each with a letter of its front"
                + " or its back that is the same and can be used.");
        Asked x = Asked.with("page 3 1;front abb;back cca;sizes 2 1;least 1;");
        // The cells have a and a, b and c, b and c.
        x.tell("a", 0);
        x.tell("aa", 1);
        x.tell("bb", 0);
        x.tell("bc", 0);
        x.tell("bbc", 1);
        x.tell("bbcc", 2);
        x.tell("abc", 0);
        x.tell("zzz", 3);
        x.tell("a".repeat(24), 23);
        x.tell("zcbabczzz", 6);
        x.tell("abc", 0);
        x.least(2, 1);
        x.missing(1);
        x.least(1, 2);
        x.snip(0, 2, 1, 2);
        x.missing(1);
        // For the last letter each of those ahead must move on: the cells have a and b, b and c, to g and h.
        Asked y = Asked.with("page 7 1;front abcdefg;back hgfedcb;");
        y.tell("bcdefgh", 0);
        y.tell("bcdefga", 0);
        y.tell("gfedcba", 0);
        y.tell("bcdefgha", 1);
        Asked z = Asked.with("page 8 3;front " + "abcdefgh ".repeat(3) + ";");
        z.tell("hgfedcba".repeat(3), 0);
        z.tell("hgfedcba".repeat(2) + "hgfedcbb", 1);
        Asked w = Asked.with("page 8 3;front abcdefgh ijklmnop qrstuvwx;back ihgfedcb qponmlkj -xwvutsr;");
        w.tell("bcdefghijklmnopqrstuvwxa", 0);
    }

    private static void inputBuffer() {
        Sentences.says("The setup text is read from an input buffer of at most 400 bytes.");
        String text = "page 2 1;" + " ".repeat(381) + "back ab; ;";
        Asked x = new Asked();
        x.feed(text);
        x.append(0x20202020, 0x20202020, 0x20202020, 0x20202020, 0x20202020, -1);
        x.load(401, ARGUMENT);
        x.load(400, SYNTAX_ERROR);
        x.errorOffset(399);
        x.feed(text);
        x.load(399, 2);
        x.letters(1, "ab");
        x.setup(text.substring(0, 398) + " ", 2);
        x.setup(text.substring(0, 397) + "   ", SYNTAX_ERROR);
        x.errorOffset(400);
    }

    /** That a text can be loaded onto a new object. */
    private static void loads(String text) {
        Asked.with(text).errorOffset(-1);
    }

    /** That a text has this first error. */
    private static void fails(String text, int code, int offset) {
        Asked x = new Asked();
        x.setup(text, code);
        x.errorOffset(offset);
    }

    private static void grammar() {
        Sentences.leaves("Its grammar is:");
        Sentences.says("setup = \"page\" number number \";\" { statement \";\" }");
        loads("page 1 1;");
        loads("page 1 1;least 1;");
        loads("page 1 1;front a;back a;sizes 1 1;least 1;");
        fails("", SYNTAX_ERROR, 0);
        fails("least 1;", SYNTAX_ERROR, 0);
        fails("least 1;page 1 1;", SYNTAX_ERROR, 0);
        fails("pages 1 1;", SYNTAX_ERROR, 0);
        fails("page 1;", SYNTAX_ERROR, 6);
        fails("page 1 1 1;", SYNTAX_ERROR, 9);
        fails("page 1 1", SYNTAX_ERROR, 8);
        fails("page 1 1;;", SYNTAX_ERROR, 9);
        fails("page 1 1;least 1;;", SYNTAX_ERROR, 17);
        fails("page 1 1;least 1", SYNTAX_ERROR, 16);
        fails("page 1 1;least 1 front a;", SYNTAX_ERROR, 17);
        Sentences.says("statement = \"front\" line { line } | \"back\" line { line } | \"sizes\" number { number } |"
                + " \"least\" number");
        loads("page 2 2;front aa --;");
        loads("page 2 2;back aa --;");
        loads("page 2 2;sizes 1 2 3 4;");
        loads("page 2 2;least 2;");
        fails("page 2 2;side aa aa;", SYNTAX_ERROR, 9);
        fails("page 2 2;aa;", SYNTAX_ERROR, 9);
        fails("page 2 2;2;", SYNTAX_ERROR, 9);
        fails("page 2 2;page 2 2;", SYNTAX_ERROR, 9);
        fails("page 2 2;front;", SYNTAX_ERROR, 14);
        fails("page 2 2;front 2;", SYNTAX_ERROR, 15);
        fails("page 2 2;back;", SYNTAX_ERROR, 13);
        fails("page 2 2;sizes;", SYNTAX_ERROR, 14);
        fails("page 2 2;sizes a;", SYNTAX_ERROR, 15);
        fails("page 2 2;least;", SYNTAX_ERROR, 14);
        fails("page 2 2;least a;", SYNTAX_ERROR, 15);
        fails("page 2 2;least 1 2;", SYNTAX_ERROR, 17);
    }

    private static void tokens() {
        Sentences.says("A number is a run of decimal digits, of any length (leading zeros do not matter);");
        Asked x = new Asked();
        x.setup("page 0" + "0".repeat(200) + "3 002;sizes 01 000000000009 0" + "0".repeat(100) + "5 4;", 6);
        x.place(0, 0, 1, 1);
        x.place(0, 3, 1, 9);
        x.place(1, 0, 1, 5);
        // Numbers that would wrap around to 1 in 8, 16, 32 and 64 bits, and one of 380 digits.
        for (String number : new String[] {"257", "65537", "4294967297", "18446744073709551617", "1".repeat(380)}) {
            fails("page " + number + " 1;", OUT_OF_RANGE, 5);
            fails("page 1 1;least " + (number.length() > 370 ? "1".repeat(370) : number) + ";", OUT_OF_RANGE, 15);
        }
        fails("page +1 1;", SYNTAX_ERROR, 5);
        fails("page -1 1;", SYNTAX_ERROR, 5);
        fails("page 1.0 1;", SYNTAX_ERROR, 6);
        fails("page / 1;", SYNTAX_ERROR, 5);
        fails("page : 1;", SYNTAX_ERROR, 5);
        Sentences.says("a word is a run of the letters a to z;");
        fails("pages 1 1;", SYNTAX_ERROR, 0);
        fails("bage 1 1;", SYNTAX_ERROR, 0);
        fails("page 1 1;eeast 1;", SYNTAX_ERROR, 9);
        fails("page 1 1;leasl 1;", SYNTAX_ERROR, 9);
        fails("pageS 1 1;", SYNTAX_ERROR, 4);
        fails("Page 1 1;", SYNTAX_ERROR, 0);
        fails("pagE 1 1;", SYNTAX_ERROR, 0);
        fails("p age 1 1;", SYNTAX_ERROR, 0);
        fails("`page 1 1;", SYNTAX_ERROR, 0);
        fails("page{1 1;", SYNTAX_ERROR, 4);
        fails("page`1 1;", SYNTAX_ERROR, 4);
        Sentences.says("a line is a run of the letters a to z and of the byte - (any, also one like a word of the"
                + " grammar).");
        Asked y = new Asked();
        y.setup("page 5 2;front front -back;back sizes least;", 10);
        y.letters(0, "front-back");
        y.letters(1, "sizesleast");
        y.setup("page 4 2;front page ----;back a--z z--a;", 8);
        y.letters(0, "page----");
        y.letters(1, "a--zz--a");
        fails("page 2 1;front a`;", WRONG_WIDTH, 15);
        fails("page 2 1;front ab`;", SYNTAX_ERROR, 17);
        fails("page 2 1;front ab{;", SYNTAX_ERROR, 17);
        fails("page 2 1;front ab,;", SYNTAX_ERROR, 17);
        fails("page 2 1;front ab.;", SYNTAX_ERROR, 17);
        fails("page 2 1;front abA;", SYNTAX_ERROR, 17);
        fails("page 2 1;front ab1;", SYNTAX_ERROR, 17);
        Sentences.says("Each run is as long as possible (a word ends at a byte -).");
        fails("pagepage 1 1;", SYNTAX_ERROR, 0);
        fails("page 11;", OUT_OF_RANGE, 5);
        fails("page 1 1;frontb;", SYNTAX_ERROR, 9);
        fails("page 1 1;frontb-;", SYNTAX_ERROR, 9);
        fails("page 1 2;front ab;", WRONG_WIDTH, 15);
        fails("page 1 2;front a-;", WRONG_WIDTH, 15);
        fails("page-1 1;", SYNTAX_ERROR, 4);
        fails("page 1 1;least-1;", SYNTAX_ERROR, 14);
        Asked z = new Asked();
        z.setup("page 2 1;front-b;back--;", 2);
        z.letters(0, "-b");
    }

    private static void spaces() {
        Sentences.says("Spaces (byte 32) may precede any token and may follow the last one;");
        loads("  page  2  2  ;  front  ab  cd  ;  sizes  1  1  1  1  ;  least  1  ;  ");
        loads("page2 2;front ab cd;sizes1 1 1 1;least1;");
        loads("page 1 1;" + " ".repeat(391));
        Sentences.says("they are needed between two numbers, and between two words or lines.");
        loads("page 1 1;sizes 1 1;");
        fails("page 1 1;sizes 11;", OUT_OF_RANGE, 15);
        fails("page 21;", OUT_OF_RANGE, 5);
        loads("page 2 2;front ab cd;");
        fails("page 2 2;front abcd;", WRONG_WIDTH, 15);
        fails("page 2 2;front ----;", WRONG_WIDTH, 15);
        fails("page 2 2;frontab cd;", SYNTAX_ERROR, 9);
        Sentences.says("No other byte separates tokens.");
        for (int sign : new int[] {0, 9, 10, 13, 31, 33, ',', 127, 128, 160, 255}) {
            char c = (char) sign;
            fails(c + "page 1 1;", SYNTAX_ERROR, 0);
            fails("page" + c + "1 1;", SYNTAX_ERROR, 4);
            fails("page 1" + c + "1;", SYNTAX_ERROR, 6);
            fails("page 1 1" + c + ";", SYNTAX_ERROR, 8);
            fails("page 1 1;" + c, SYNTAX_ERROR, 9);
            fails("page 1 2;front a" + c + "b;", SYNTAX_ERROR, 16);
        }
    }

    private static void meaningOfLines() {
        Sentences.says("The numbers of page are the width and the height.");
        Asked x = Asked.with("page 8 6;");
        x.states(8, 6);
        x.setup("page 1 6;", 6);
        x.states(1, 6);
        x.setup("page 6 1;", 6);
        x.states(6, 1);
        Sentences.says("The lines of front and of back are the rows of this side, from the top (each as one looks at"
                + " that side), as many as the height, each with as many bytes as the width: a letter, or - for a"
                + " blank place.");
        x.setup("page 3 2;back abc d-f;front -gh ij-;", 6);
        x.letters(0, "-ghij-");
        x.letters(1, "abcd-f");
        x.setup("page 8 6;front " + "abcdefgh ".repeat(6) + ";back " + "-------z ".repeat(6) + ";", 48);
        x.letters(0, "abcdefgh".repeat(6));
        x.letters(1, "-------z".repeat(6));
        fails("page 3 2;front abc;", SYNTAX_ERROR, 18);
        fails("page 3 2;front abc abc abc;", SYNTAX_ERROR, 23);
        fails("page 3 2;front abc ab;", WRONG_WIDTH, 19);
        fails("page 3 2;back abc abcd;", WRONG_WIDTH, 18);
        Sentences.says("All places are blank without them.");
        x.setup("page 8 6;", 48);
        x.letters(0, "-".repeat(48));
        x.letters(1, "-".repeat(48));
        x.setup("page 2 1;back ab;", 2);
        x.letters(0, "--");
        x.setup("page 2 1;front ab;", 2);
        x.letters(1, "--");
    }

    private static void meaningOfNumbers() {
        Asked x = new Asked();
        Sentences.says("The numbers of sizes are those of the rows of the front, from the top, then those of the"
                + " back (1 each without it), twice the height together.");
        x.setup("page 2 3;sizes 1 2 3 4 5 6;", 6);
        sizes(x, 2, 1, 2, 3, 4, 5, 6);
        x.setup("page 1 6;sizes 9 8 7 6 5 4 3 2 1 9 8 7;", 6);
        sizes(x, 1, 9, 8, 7, 6, 5, 4, 3, 2, 1, 9, 8, 7);
        x.setup("page 1 6;", 6);
        sizes(x, 1, 1, 1, 1, 1, 1, 1, 1, 1, 1, 1, 1, 1);
        fails("page 2 3;sizes 1 2 3;", SYNTAX_ERROR, 20);
        fails("page 2 3;sizes 1 2 3 4 5;", SYNTAX_ERROR, 24);
        fails("page 2 3;sizes 1 2 3 4 5 6 7;", SYNTAX_ERROR, 27);
        Sentences.says("Least is the least size (1 without it).");
        x.setup("page 1 1;least 9;", 1);
        x.state(2, 9);
        x.setup("page 1 1;", 1);
        x.state(2, 1);
        Sentences.says("Each statement may occur once.");
        for (int i = 0; i < 3; i++) {
            x.setup("page 1 1;least 1;sizes 1 1;back a;front a;", 1);
        }
        fails("page 1 1;front a;front a;", SYNTAX_ERROR, 17);
        fails("page 1 1;back a;back a;", SYNTAX_ERROR, 16);
        fails("page 1 1;sizes 1 1;sizes 1 1;", SYNTAX_ERROR, 19);
        fails("page 1 1;least 1;least 1;", SYNTAX_ERROR, 17);
        fails("page 1 1;least 1;sizes 1 1;back a;front a;least 1;", SYNTAX_ERROR, 42);
        Sentences.says("All cells are there, and the message is empty.");
        x.setup("page 2 1;front ab;", 2);
        x.tell("ab", 0);
        x.cut(1);
        x.state(3, 0);
        x.setup("page 2 2;front ab cd;", 4);
        x.state(3, 4);
        x.letters(0, "abcd");
        x.state(4, 0);
        x.message(0, ELEMENT);
    }

    /** That the rows of the front, then those of the back, have these sizes. */
    private static void sizes(Asked x, int width, int... want) {
        int rows = want.length / 2;
        for (int i = 0; i < want.length; i++) {
            x.place(i / rows, i % rows * width, 1, want[i]);
            x.place(i / rows, i % rows * width + width - 1, 1, want[i]);
        }
    }

    private static void firstErrors() {
        Sentences.says("The first error in the text is the one with the smallest offset.");
        fails("page 9 0;", OUT_OF_RANGE, 5);
        fails("page 0 a", OUT_OF_RANGE, 5);
        fails("page 1 7", OUT_OF_RANGE, 7);
        fails("page 2 1;front abc", WRONG_WIDTH, 15);
        fails("page 2 1;front a least 0;", WRONG_WIDTH, 15);
        fails("page 2 1;least 0;front a;", OUT_OF_RANGE, 15);
        fails("page 2 1;front a;least 0;", WRONG_WIDTH, 15);
        fails("page 2 1;sizes 0;", OUT_OF_RANGE, 15);
        fails("page 2 1;sizes 1;least 0;", SYNTAX_ERROR, 16);
        fails("page 2 1;x;front a;", SYNTAX_ERROR, 9);
        Sentences.says("If several kinds of error have the same offset, the first one in this list counts:");
        fails("page 1 1 0;", SYNTAX_ERROR, 9);
        fails("page 1 1;least 1 99;", SYNTAX_ERROR, 17);
        fails("page 2 1;sizes 1 1 0;", SYNTAX_ERROR, 19);
        fails("page 2 1;front ab a;", SYNTAX_ERROR, 18);
        fails("page 2 1;back ab abc;", SYNTAX_ERROR, 17);
    }

    private static void syntaxErrors() {
        Sentences.leaves("- SYNTAX_ERROR:");
        Sentences.says("a token or byte that the grammar does not allow here, at its first byte;");
        fails("   x 1 1;", SYNTAX_ERROR, 3);
        fails("page page;", SYNTAX_ERROR, 5);
        fails("page 1  b;", SYNTAX_ERROR, 8);
        fails("page 1 1 least 1;", SYNTAX_ERROR, 9);
        fails("page 1 1;  fronts a;", SYNTAX_ERROR, 11);
        fails("page 1 1;-;", SYNTAX_ERROR, 9);
        fails("page 1 1;front  12;", SYNTAX_ERROR, 16);
        fails("page 1 1;least  one;", SYNTAX_ERROR, 16);
        fails("page 1 1;least 1;\u00ff", SYNTAX_ERROR, 17);
        Sentences.says("the end of the text, at its length, if the text ends too early;");
        fails("", SYNTAX_ERROR, 0);
        fails("    ", SYNTAX_ERROR, 4);
        fails("page", SYNTAX_ERROR, 4);
        fails("page 1", SYNTAX_ERROR, 6);
        fails("page 1 1", SYNTAX_ERROR, 8);
        fails("page 1 1  ", SYNTAX_ERROR, 10);
        fails("page 1 1;front", SYNTAX_ERROR, 14);
        fails("page 1 1;front a", SYNTAX_ERROR, 16);
        fails("page 1 2;front a ", SYNTAX_ERROR, 17);
        fails("page 1 1;sizes 1", SYNTAX_ERROR, 16);
        fails("page 1 1;sizes 1 1", SYNTAX_ERROR, 18);
        fails("page 1 1;least", SYNTAX_ERROR, 14);
        // The bytes behind the text do not belong to it.
        Asked x = new Asked();
        x.feed("page 1 1;least 1;");
        x.load(16, SYNTAX_ERROR);
        x.errorOffset(16);
        Sentences.says("a second statement of the same word, at its first letter;");
        fails("page 1 1;front a;  front a;", SYNTAX_ERROR, 19);
        fails("page 1 1;front a;back a;front", SYNTAX_ERROR, 24);
        fails("page 1 1;back a;back 1;", SYNTAX_ERROR, 16);
        fails("page 1 1;sizes 1 1; sizes 0;", SYNTAX_ERROR, 20);
        fails("page 1 1;least 1;least 0;", SYNTAX_ERROR, 17);
        Sentences.says("a \";\" ahead of the last line or number of a statement,");
        fails("page ;", SYNTAX_ERROR, 5);
        fails("page 1;", SYNTAX_ERROR, 6);
        fails("page 1 6;front a b c d e;", SYNTAX_ERROR, 24);
        fails("page 1 2;back a ;", SYNTAX_ERROR, 16);
        fails("page 1 2;sizes 1 1 1;", SYNTAX_ERROR, 20);
        fails("page 1 1;least ;", SYNTAX_ERROR, 15);
        Sentences.says("or a line or number behind it (whatever it is), at its first byte.");
        fails("page 1 1 1;", SYNTAX_ERROR, 9);
        fails("page 1 1 x;", SYNTAX_ERROR, 9);
        fails("page 1 1;front a b;", SYNTAX_ERROR, 17);
        fails("page 1 1;front a bcd;", SYNTAX_ERROR, 17);
        fails("page 1 1;front a -", SYNTAX_ERROR, 17);
        fails("page 1 1;front a 1;", SYNTAX_ERROR, 17);
        fails("page 1 1;sizes 1 1 1;", SYNTAX_ERROR, 19);
        fails("page 1 1;sizes 1 1 10;", SYNTAX_ERROR, 19);
        fails("page 1 1;sizes 1 1 a;", SYNTAX_ERROR, 19);
        fails("page 1 1;least 1  0;", SYNTAX_ERROR, 18);
    }

    private static void otherErrors() {
        Sentences.says("- OUT_OF_RANGE: a number outside its range, at its first digit.");
        fails("page   9 1;", OUT_OF_RANGE, 7);
        fails("page 009 1;", OUT_OF_RANGE, 5);
        fails("page 1 00;", OUT_OF_RANGE, 7);
        fails("page 1   7;", OUT_OF_RANGE, 9);
        fails("page 1 1;sizes 1  0;", OUT_OF_RANGE, 18);
        fails("page 1 1;sizes 1 0010;", OUT_OF_RANGE, 17);
        fails("page 1 1;least  00;", OUT_OF_RANGE, 16);
        fails("page 1 1;least 10", OUT_OF_RANGE, 15);
        Sentences.says("- WRONG_WIDTH: a line that has not as many bytes as the width, at its first byte.");
        fails("page 2 1;front  a;", WRONG_WIDTH, 16);
        fails("page 2 1;front -;", WRONG_WIDTH, 15);
        fails("page 2 1;front ---;", WRONG_WIDTH, 15);
        fails("page 2 1;front-;", WRONG_WIDTH, 14);
        fails("page 2 2;back ab   abc;", WRONG_WIDTH, 19);
        fails("page 8 1;front abcdefg;", WRONG_WIDTH, 15);
        fails("page 8 1;front abcdefghi;", WRONG_WIDTH, 15);
        fails("page 1 1;front " + "a".repeat(385), WRONG_WIDTH, 15);
    }

    private static void changes() {
        Sentences.says("The changing methods are load (when it succeeds), tell, cut, snip, least and mend; each such"
                + " call that does not throw an exception is a change, also if all data stay as they were.");
        Asked x = new Asked();
        x.setup("page 1 1;", 1);
        x.undo(0);
        x.undo(-1);
        x.setup("page 0 1;", OUT_OF_RANGE);
        x.undo(-1);
        x.setup("page 2 1;front ab;", 2);
        x.setup("page 2 1;front ab;", 2);
        x.tell("a", 0);
        x.tell("a", 0);
        x.least(1, 1);
        x.cut(1);
        x.mend(0, 2);
        x.snip(0, 0, 2, 0);
        for (int left = 7; left >= 0; left--) {
            x.undo(left);
        }
        x.undo(-1);
        // Neither what asks nor what throws is a change.
        x.least(1, 1);
        x.least(0, ARGUMENT);
        x.tell(1, ARGUMENT);
        x.cut(STATE);
        x.snip(0, 0, 1, STATE);
        x.mend(0, STATE);
        x.load(1, ARGUMENT);
        x.append(0, 0, 0, 0, 0, 20);
        x.copies(0);
        x.missing(0);
        x.undo(0);
    }

    private static void undoLimits() {
        Sentences.says("The latest 8 changes can be undone, the latest one first;");
        Asked x = new Asked();
        for (int size = 2; size <= 9; size++) {
            x.least(size, size - 1);
        }
        for (int left = 7; left >= 0; left--) {
            x.undo(left);
            x.state(2, left + 1);
        }
        x.undo(-1);
        x.state(2, 1);
        Sentences.says("a change is final as soon as 8 later ones, none of them undone, have been made.");
        Asked y = new Asked();
        y.least(9, 1);
        for (int size = 1; size <= 8; size++) {
            y.least(size, size == 1 ? 9 : size - 1);
        }
        // The first change, to 9, is final: it stays.
        for (int left = 7; left >= 0; left--) {
            y.undo(left);
        }
        y.undo(-1);
        y.state(2, 9);
        // Changes that were undone make nothing final.
        Asked z = new Asked();
        z.least(2, 1);
        z.least(3, 2);
        for (int i = 0; i < 12; i++) {
            z.least(9, 3);
            z.undo(2);
        }
        for (int size = 4; size <= 9; size++) {
            z.least(size, size - 1);
        }
        z.undo(7);
        z.least(5, 8);
        z.undo(7);
        for (int left = 6; left >= 0; left--) {
            z.undo(left);
        }
        z.state(2, 1);
        z.undo(-1);
        // A change that is final stays so, also if later ones are undone.
        Asked w = new Asked();
        for (int size = 2; size <= 9; size++) {
            w.least(size, size - 1);
        }
        w.least(1, 9);
        w.undo(7);
        w.undo(6);
        w.least(4, 8);
        w.undo(6);
        for (int left = 5; left >= 0; left--) {
            w.undo(left);
        }
        w.undo(-1);
        w.state(2, 2);
    }

    private static void beforeTheFirstLoad() {
        Sentences.says("Before the first successful load the sheet has one cell, which is blank on both sides, sizes"
                + " and the least size are 1, and the message is empty.");
        Asked x = new Asked();
        for (int i = 0; i < 2; i++) {
            x.states(1, 1, 1, 1, 0, 0, 0, 0);
            for (int side = 0; side < 2; side++) {
                x.letter(side, 0, -1);
                x.letter(side, 1, INDEX);
                x.place(side, 0, 1, 1);
            }
            x.message(0, ELEMENT);
            x.setup("page 2 2;front ab", SYNTAX_ERROR);
        }
        // The methods that change work already.
        x.tell("a", 1);
        x.least(9, 1);
        x.snip(0, 0, 1, STATE);
        x.mend(0, STATE);
        x.mend(1, INDEX);
    }

    private static void wrongIndexes() {
        Sentences.says("In the methods, IndexOutOfBoundsException is thrown if a parameter named side is not 0 or 1,"
                + " one named cell not the index of a cell, or one named place not the number of a place.");
        Asked x = Asked.with("page 3 2;front abc def;back abc def;");
        int[] least = {Integer.MIN_VALUE, -2, -1};
        for (int wrong : new int[] {least[0], least[1], least[2], 2, 3, 256, Integer.MAX_VALUE}) {
            x.letter(wrong, 0, INDEX);
            x.place(wrong, 0, 0, INDEX);
            x.snip(wrong, 0, 1, INDEX);
        }
        for (int wrong : new int[] {least[0], least[1], least[2], 6, 7, 48, 256, Integer.MAX_VALUE}) {
            for (int side = 0; side < 2; side++) {
                x.letter(side, wrong, INDEX);
                x.place(side, wrong, 0, INDEX);
                x.snip(side, wrong, 1, INDEX);
            }
            x.mend(wrong, INDEX);
        }
        for (int side = 0; side < 2; side++) {
            x.letter(side, 0, 0);
            x.letter(side, 5, 5);
            x.place(side, 0, 1, 1);
            x.place(side, 5, 1, 1);
        }
        x.snip(0, 0, 1, 5);
        x.snip(1, 3, 1, 4);
        x.mend(0, 5);
        x.mend(5, 6);
    }

    private static void orderOfExceptions() {
        Sentences.says("If several exceptions apply to a call, the one that is listed first with the method is"
                + " thrown.");
        Asked x = Asked.with("page 2 1;front a-;");
        x.place(2, 0, 5, INDEX);
        x.place(0, 2, -1, INDEX);
        x.place(0, 0, 5, ARGUMENT);
        x.snip(-1, 0, 0, INDEX);
        x.snip(0, 2, 9, INDEX);
        x.snip(0, -1, 2, INDEX);
        x.snip(0, 1, 9, ARGUMENT);
        x.snip(0, 1, 0, ARGUMENT);
        x.snip(0, 1, 1, STATE);
        x.cutOf(0, 4, ELEMENT);
        x.tell("a", 0);
        x.cutOf(1, 4, ELEMENT);
        x.cutOf(-1, -1, ELEMENT);
        x.cutOf(0, 4, ARGUMENT);
        x.mend(2, INDEX);
        x.mend(1, STATE);
    }

    private static void exceptionsChangeNothing() {
        Sentences.says("A method that throws an exception changes nothing.");
        Asked x = Asked.with("page 3 1;front abc;back bca;sizes 2 1;");
        x.tell("cb", 0);
        x.snip(0, 0, 1, 2);
        x.setup("page 3 7;", OUT_OF_RANGE);
        x.feed("bcB");
        long before = x.sum();
        x.load(-1, ARGUMENT);
        x.load(21, ARGUMENT);
        x.state(8, ARGUMENT);
        x.letter(0, 3, INDEX);
        x.place(0, 0, 5, ARGUMENT);
        x.stock(26, 0, ARGUMENT);
        x.message(2, ELEMENT);
        x.cutOf(2, 0, ELEMENT);
        x.longest(2, ELEMENT);
        x.tell(0, ARGUMENT);
        x.tell(3, ARGUMENT);
        x.tell(25, ARGUMENT);
        x.snip(0, 0, 1, STATE);
        x.snip(0, 1, 9, ARGUMENT);
        x.least(10, ARGUMENT);
        x.mend(1, STATE);
        x.mend(3, INDEX);
        x.checksum(before);
        x.errorOffset(7);
        x.append(0, 0, 0, 0, 0, 40);
        x.tell(2, 0);
        x.tell("cbcbcbcbc", 7);
        x.cut(STATE);
        x.undo(4);
        x.undo(3);
        x.checksum(before);
    }

    private static void constants() {
        Sentences.leaves("The constants:");
        Sentences.says("`SYNTAX_ERROR = -2`: Error code of load: the text does not follow the grammar.");
        Sentences.due("SYNTAX_ERROR", () -> LetterCuts.SYNTAX_ERROR, -2);
        new Asked().setup("pag", LetterCuts.SYNTAX_ERROR);
        Sentences.says("`OUT_OF_RANGE = -3`: Error code of load: a number is not allowed.");
        Sentences.due("OUT_OF_RANGE", () -> LetterCuts.OUT_OF_RANGE, -3);
        new Asked().setup("page 0 1;", LetterCuts.OUT_OF_RANGE);
        Sentences.says("`WRONG_WIDTH = -4`: Error code of load: a line is too short or too long.");
        Sentences.due("WRONG_WIDTH", () -> LetterCuts.WRONG_WIDTH, -4);
        new Asked().setup("page 2 1;front a;", LetterCuts.WRONG_WIDTH);
        new Asked().setup("page 2 1;front aaa;", LetterCuts.WRONG_WIDTH);
    }
}

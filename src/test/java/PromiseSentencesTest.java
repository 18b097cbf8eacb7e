/** A test for each sentence of the document's promises 1 to 24: the boundary cases that it names. */
public final class PromiseSentencesTest {
    private static final String INDEX = Asked.INDEX;
    private static final String ARGUMENT = Asked.ARGUMENT;
    private static final String STATE = Asked.STATE;
    private static final String ELEMENT = Asked.ELEMENT;

    private static final int LEAST_INT = Integer.MIN_VALUE;
    private static final int GREATEST_INT = Integer.MAX_VALUE;

    /** Front: a b c (size 2), d - a (size 3). Back: x y z (size 4), - a b (size 1, too small). */
    private static final String SIX = "page 3 2;front abc d-a;back xyz -ab;sizes 2 3 4 1;least 2;";

    private static final String NO_SIDE_OR_PLACE =
            "Throws `IndexOutOfBoundsException` if there is no such side or place";
    private static final String WHAT_OUT_OF_RANGE = "Throws `IllegalArgumentException` if what is out of range";
    private static final String MESSAGE_TOO_SHORT =
            "Throws `NoSuchElementException` if the message has not so many letters";

    private PromiseSentencesTest() {
    }

    public static void main(String[] args) {
        run();
        Sentences.compareWithDocument();
        Due.finish();
    }

    static void run() {
        newObject();
        append();
        load();
        loadWithErrors();
        errorOffset();
        state();
        letter();
        place();
        stock();
        message();
        missing();
        fewest();
        cutOf();
        unevenness();
        copies();
        longest();
        clashes();
        meanSize();
        tell();
        tellWrongly();
        cut();
        snip();
        least();
        mend();
        undo();
        checksum();
    }

    private static void newObject() {
        Sentences.in("Promise 1");
        Sentences.says("Creates an object with a sheet of one cell, with an empty input buffer.");
        Asked x = new Asked();
        x.states(1, 1, 1, 1, 0, 0, 0, 0);
        x.letters(0, "-");
        x.letters(1, "-");
        x.letter(0, 1, INDEX);
        x.load(1, ARGUMENT);
        x.tell(1, ARGUMENT);
        x.errorOffset(-1);
        x.undo(-1);
        x.append(0, 0, 0, 0, 0, 20);
        // One object's data are not the other's.
        new Asked().append(0, 0, 0, 0, 0, 20);
        x.load(0, -2);
        new Asked().load(1, ARGUMENT);
    }

    private static void append() {
        Sentences.in("Promise 2");
        Sentences.says("Appends 20 bytes to the input buffer: the 4 bytes of each argument, the most significant"
                + " byte first.");
        Asked x = new Asked();
        x.append(0x61626364, 0x65666768, 0x696a6b6c, 0x6d6e6f70, 0x71727374, 20);
        x.append(0x7a7a7a7a, 0x79797979, 0, -1, 0, 40);
        x.tell(24, 24);
        for (int k = 0; k < 24; k++) {
            x.message(k, k < 20 ? k : 25);
        }
        // Each of the 20 bytes alone, with the bit that makes a byte negative.
        for (int at = 0; at < 20; at++) {
            int[] w = {0x61616161, 0x61616161, 0x61616161, 0x61616161, 0x61616161};
            w[at / 4] ^= 0x80 << 24 - at % 4 * 8;
            x.append(w[0], w[1], w[2], w[3], w[4], 20);
            x.tell(at + 1, ARGUMENT);
            x.load(at, -2);
        }
        x.append(0x70616765, 0x20312031, 0x3b206261, 0x636b2061, 0x3b000000, 20);
        x.load(17, 1);
        x.letters(1, "a");
        Sentences.says("Returns the new length of the buffer;");
        Asked y = new Asked();
        for (int length = 20; length <= 400; length += 20) {
            y.append(LEAST_INT, -1, 0, 1, GREATEST_INT, length);
        }
        y.load(3, -2);
        y.append(0, 0, 0, 0, 0, 20);
        Sentences.says("-1 if it would exceed 400 bytes, and the buffer is unchanged then.");
        Asked z = new Asked();
        z.feed("page 1 1;back a" + " ".repeat(365));
        z.append(0x20202020, 0x20202020, 0x20202020, 0x20202020, 0x2020203b, 400);
        z.append(0x78787878, 0x78787878, 0x78787878, 0x78787878, 0x78787878, -1);
        z.append(-1, -1, -1, -1, -1, -1);
        z.load(401, ARGUMENT);
        z.load(400, 1);
        z.letters(1, "a");
        z.append(0x61000000, 0, 0, 0, 0, 20);
        z.tell(1, 0);
    }

    private static void load() {
        Sentences.in("Promise 3");
        Sentences.says("Reads the first bytes of the input buffer as a setup text and replaces all data by it.");
        Asked x = Asked.with("page 2 2;front ab cd;back ef gh;sizes 4 5 6 7;least 3;");
        x.tell("abcd", 0);
        x.cut(2);
        x.feed("page 3 1;back xyz;front ab");
        x.load(18, 3);
        x.states(3, 1, 1, 3, 0, 0, 0, 3);
        x.letters(0, "---");
        x.letters(1, "xyz");
        x.letter(0, 3, INDEX);
        x.place(0, 0, 1, 1);
        x.place(1, 2, 1, 1);
        x.message(0, ELEMENT);
        Sentences.says("The input buffer is empty afterwards, also if the text has an error.");
        x.load(1, ARGUMENT);
        x.feed("page 0 1;");
        x.load(9, -3);
        x.load(1, ARGUMENT);
        x.append(0x61000000, 0, 0, 0, 0, 20);
        x.load(0, -2);
        x.tell(1, ARGUMENT);
        Sentences.leaves("- `length`: the number of bytes to read");
        Sentences.says("Returns the number of cells;");
        x.setup("page 1 1;", 1);
        x.setup("page 8 6;", 48);
        x.setup("page 1 6;", 6);
        x.setup("page 8 1;", 8);
        Sentences.says("Throws `IllegalArgumentException` if length is negative or greater than the length of the"
                + " buffer; the buffer is unchanged then");
        Asked y = new Asked();
        y.load(1, ARGUMENT);
        y.load(-1, ARGUMENT);
        y.feed("page 2 1;");
        y.load(-1, ARGUMENT);
        y.load(LEAST_INT, ARGUMENT);
        y.load(21, ARGUMENT);
        y.load(400, ARGUMENT);
        y.load(401, ARGUMENT);
        y.load(GREATEST_INT, ARGUMENT);
        y.errorOffset(-1);
        y.load(20, 2);
    }

    private static void loadWithErrors() {
        Sentences.says("An error leaves all other data unchanged.");
        Asked x = Asked.with(SIX);
        x.tell("abdx", 0);
        x.snip(0, 5, 1, 5);
        long before = x.sum();
        // Each part of the data was read ahead of the error.
        x.setup("page 8 6;", 48);
        x.undo(3);
        x.checksum(before);
        x.setup("page 1 6;front z z z z z z;back y y y y y y;sizes 9 9 9 9 9 9 9 9 9 9 9 9;least 9", -2);
        x.checksum(before);
        x.setup("page 2 1;front ab;back a;", -4);
        x.setup("page 3 2;front zzz zzz;sizes 9 9 9 0;", -3);
        x.setup("page 7 7;", -3);
        x.checksum(before);
        x.fewest(3);
        x.undo(2);
        Sentences.says("An empty text has a SYNTAX_ERROR.");
        x.load(0, LetterCuts.SYNTAX_ERROR);
        x.errorOffset(0);
        x.feed("page 1 1;");
        x.load(0, LetterCuts.SYNTAX_ERROR);
        x.errorOffset(0);
        Sentences.says("or the error code of the first error.");
        x.setup("page 1 9", -3);
        x.setup("page 2 1;front a", -4);
        x.setup("page 2 1;front ab", -2);
    }

    private static void errorOffset() {
        Sentences.in("Promise 4");
        Sentences.says("Returns the offset of the error found by the latest call of load that did not throw;");
        Asked x = new Asked();
        x.setup("page 2 9;", -3);
        x.errorOffset(7);
        x.load(1, ARGUMENT);
        x.errorOffset(7);
        x.setup("", -2);
        x.errorOffset(0);
        x.feed(" ".repeat(400));
        x.load(400, -2);
        x.errorOffset(400);
        x.least(2, 1);
        x.undo(0);
        x.errorOffset(400);
        Sentences.says("-1 if it found none or if there was no such call.");
        x.setup("page 1 1;", 1);
        x.errorOffset(-1);
        x.load(-1, ARGUMENT);
        x.errorOffset(-1);
        x.setup("page", -2);
        x.undo(0);
        x.errorOffset(4);
        Asked y = new Asked();
        y.errorOffset(-1);
        y.load(1, ARGUMENT);
        y.errorOffset(-1);
    }

    private static void state() {
        Sentences.in("Promise 5");
        Asked x = Asked.with(SIX);
        Sentences.leaves("- `what`:", "Returns this number.");
        Sentences.says("0 the width, 1 the height,");
        x.states(3, 2);
        Sentences.says("2 the least size,");
        x.state(2, 2);
        x.least(9, 2);
        x.state(2, 9);
        x.least(2, 9);
        Sentences.says("4 letters of the message (0 if it is empty),");
        x.state(4, 0);
        x.tell("abdx", 0);
        x.state(4, 4);
        Sentences.says("3 cells that are there,");
        x.state(3, 6);
        x.snip(0, 0, 3, 3);
        x.state(3, 3);
        x.mend(1, 4);
        x.state(3, 4);
        x.undo(5);
        x.undo(4);
        x.state(3, 6);
        Sentences.says("7 letters of both sides that can be used");
        // Five of the front and three of the back; two of the back are too small.
        x.state(7, 8);
        x.least(1, 2);
        x.state(7, 10);
        x.least(9, 1);
        x.state(7, 0);
        x.least(2, 9);
        // The front's a behind nothing that can be used, then b and its back y.
        x.snip(0, 5, 1, 5);
        x.state(7, 7);
        x.snip(0, 1, 1, 4);
        x.state(7, 5);
        Sentences.says("5 cuts that were made since the latest successful load,");
        Asked y = Asked.with("page 4 1;front abcd;");
        y.state(5, 0);
        y.tell("dbc", 0);
        y.cut(2);
        y.state(5, 2);
        y.snip(0, 0, 1, 0);
        y.state(5, 3);
        y.mend(0, 1);
        y.state(5, 3);
        y.setup("page 4 1;front abcd", -2);
        y.state(5, 3);
        y.setup("page 4 1;front abcd;", 4);
        y.state(5, 0);
        y.undo(5);
        y.state(5, 3);
        y.undo(4);
        y.undo(3);
        y.state(5, 2);
        Sentences.says("6 letters that were cut since then,");
        y.state(6, 3);
        y.mend(1, 2);
        y.snip(0, 0, 2, 0);
        y.state(6, 5);
        y.setup("page", -2);
        y.state(6, 5);
        y.setup("page 1 1;", 1);
        y.state(6, 0);
        Sentences.says(WHAT_OUT_OF_RANGE);
        for (int wrong : new int[] {-1, 8, LEAST_INT, GREATEST_INT}) {
            x.state(wrong, ARGUMENT);
        }
        x.state(0, 3);
    }

    private static void letter() {
        Sentences.in("Promise 6");
        Sentences.leaves("- `side`: a side - `place`: a place of it");
        Sentences.says("Returns the number of its letter;");
        Asked x = Asked.with("page 2 2;front az --;back -b c-;sizes 1 1 1 1;least 9;");
        x.letter(0, 0, 0);
        x.letter(0, 1, 25);
        x.letter(1, 1, 1);
        x.letter(1, 2, 2);
        Sentences.says("-1 if it is blank;");
        x.letter(0, 2, -1);
        x.letter(0, 3, -1);
        x.letter(1, 0, -1);
        x.letter(1, 3, -1);
        Sentences.says("-2 if its cell is gone.");
        x.least(1, 9);
        x.snip(0, 1, 1, 3);
        x.letter(0, 1, -2);
        x.letter(1, 0, -2);
        x.letter(0, 0, 0);
        x.letter(1, 1, 1);
        x.snip(1, 2, 1, 2);
        x.letter(1, 2, -2);
        x.letter(0, 3, -2);
        x.mend(3, 3);
        x.letter(0, 3, -1);
        x.letter(1, 2, 2);
        Sentences.says(NO_SIDE_OR_PLACE);
        x.letter(-1, 0, INDEX);
        x.letter(2, 0, INDEX);
        x.letter(0, -1, INDEX);
        x.letter(0, 4, INDEX);
        x.letter(1, -1, INDEX);
        x.letter(1, 4, INDEX);
        x.letter(LEAST_INT, GREATEST_INT, INDEX);
    }

    private static void place() {
        Sentences.in("Promise 7");
        Sentences.leaves("- `side`: a side - `place`: a place of it - `what`:");
        Asked x = Asked.with(SIX);
        x.tell("abax", 0);
        Sentences.says("0 its cell,");
        place(x, 0, 0, 1, 2, 3, 4, 5, 2, 1, 0, 5, 4, 3);
        Sentences.says("1 its size,");
        place(x, 1, 2, 2, 2, 3, 3, 3, 4, 4, 4, 1, 1, 1);
        Sentences.says("2 the number of the place behind it, on the other side,");
        place(x, 2, 2, 1, 0, 5, 4, 3, 2, 1, 0, 5, 4, 3);
        Sentences.says("3 1 if its letter can be used, otherwise 0,");
        place(x, 3, 1, 1, 1, 1, 0, 1, 1, 1, 1, 0, 0, 0);
        Sentences.says("4 how many letters of the message are the same as its letter (0 if it is blank; whether it"
                + " can be used or not)");
        place(x, 4, 2, 1, 0, 0, 0, 2, 1, 0, 0, 0, 2, 1);
        x.least(9, 2);
        place(x, 4, 2, 1, 0, 0, 0, 2, 1, 0, 0, 0, 2, 1);
        x.least(1, 9);
        Sentences.says("Returns this (also if the cell is gone; 3 is 0 then).");
        x.snip(0, 0, 3, 3);
        x.snip(1, 4, 2, 1);
        place(x, 0, 0, 1, 2, 3, 4, 5, 2, 1, 0, 5, 4, 3);
        place(x, 1, 2, 2, 2, 3, 3, 3, 4, 4, 4, 1, 1, 1);
        place(x, 2, 2, 1, 0, 5, 4, 3, 2, 1, 0, 5, 4, 3);
        place(x, 3, 0, 0, 0, 0, 0, 1, 0, 0, 0, 0, 0, 0);
        place(x, 4, 2, 1, 0, 0, 0, 2, 1, 0, 0, 0, 2, 1);
        Sentences.says(NO_SIDE_OR_PLACE);
        x.place(-1, 0, 0, INDEX);
        x.place(2, 0, 1, INDEX);
        x.place(0, -1, 2, INDEX);
        x.place(0, 6, 3, INDEX);
        x.place(1, 6, 4, INDEX);
        x.place(1, 6, 5, INDEX);
        Sentences.says(WHAT_OUT_OF_RANGE);
        for (int wrong : new int[] {-1, 5, LEAST_INT, GREATEST_INT}) {
            x.place(0, 0, wrong, ARGUMENT);
            x.place(1, 5, wrong, ARGUMENT);
        }
    }

    /** What place(.., .., what) tells of each place of the six cells: of the front, then of the back. */
    private static void place(Asked x, int what, int... want) {
        for (int i = 0; i < 12; i++) {
            x.place(i / 6, i % 6, what, want[i]);
        }
    }

    private static void stock() {
        Sentences.in("Promise 8");
        Sentences.leaves("- `letter`: 0 to 25 - `what`:", "Returns this.");
        Asked x = Asked.with("page 3 2;front aab aaa;back aaa bba;sizes 2 2 2 1;least 2;");
        x.tell("abbaz", 2);
        Sentences.says("0 how many places of both sides have this letter that can be used,");
        x.stock(0, 0, 8);
        x.stock(1, 0, 1);
        x.stock(2, 0, 0);
        x.least(1, 2);
        x.stock(0, 0, 9);
        x.stock(1, 0, 3);
        Sentences.says("1 in how many cells at least one of the two places is such a one,");
        x.stock(0, 1, 6);
        x.stock(1, 1, 3);
        x.stock(25, 1, 0);
        x.snip(0, 0, 1, 5);
        x.stock(0, 0, 7);
        x.stock(0, 1, 5);
        x.least(2, 1);
        x.stock(1, 1, 1);
        x.least(9, 2);
        x.stock(0, 1, 0);
        Sentences.says("2 how many letters of the message are this one");
        x.stock(0, 2, 2);
        x.stock(1, 2, 2);
        x.stock(25, 2, 1);
        x.stock(2, 2, 0);
        x.tell("a".repeat(24), 24);
        x.stock(0, 2, 24);
        new Asked().stock(0, 2, 0);
        Sentences.says("Throws `IllegalArgumentException` if letter or what is out of range");
        for (int wrong : new int[] {-1, 26, LEAST_INT, GREATEST_INT}) {
            x.stock(wrong, 0, ARGUMENT);
            x.stock(wrong, 2, ARGUMENT);
        }
        for (int wrong : new int[] {-1, 3, LEAST_INT, GREATEST_INT}) {
            x.stock(0, wrong, ARGUMENT);
            x.stock(25, wrong, ARGUMENT);
        }
    }

    private static void message() {
        Sentences.in("Promise 9");
        Sentences.leaves("- `k`: a place in the message, from 0");
        Sentences.says("Returns its letter.");
        Asked x = new Asked();
        x.feed("abcdefghijklmnopqrstuvwx");
        x.tell(24, 24);
        for (int k = 0; k < 24; k++) {
            x.message(k, k);
        }
        Sentences.says(MESSAGE_TOO_SHORT);
        x.message(24, ELEMENT);
        x.message(-1, ELEMENT);
        x.message(LEAST_INT, ELEMENT);
        x.message(GREATEST_INT, ELEMENT);
        x.tell("z", 1);
        x.message(0, 25);
        x.message(1, ELEMENT);
        new Asked().message(0, ELEMENT);
    }

    private static void missing() {
        Sentences.in("Promise 10");
        Sentences.says("Returns how many letters are missing of the message;");
        Asked x = Asked.with("page 3 1;front abc;back cab;");
        // The cells have a and b, b and a, c and c.
        String[] messages = {"a", "z", "abc", "bac", "aac", "aaa", "cc", "abab", "zzz", "c".repeat(24)};
        int[] want = {0, 1, 0, 0, 0, 1, 1, 2, 3, 23};
        for (int i = 0; i < want.length; i++) {
            x.tell(messages[i], want[i]);
            x.missing(want[i]);
        }
        // The cells have a and b, a: for b, the a that came ahead must move on.
        Asked y = Asked.with("page 2 1;front ba;back -a;");
        y.tell("ab", 0);
        y.missing(0);
        Sentences.says("0 if it is empty.");
        new Asked().missing(0);
        x.setup("page 3 1;", 3);
        x.missing(0);
    }

    private static void fewest() {
        Sentences.in("Promise 11");
        Sentences.says("Returns the cuts of the best plan;");
        Asked x = Asked.with("page 8 1;front abcdefgh;back abcdefgh;");
        x.tell("abcdefgh", 0);
        x.fewest(1);
        x.tell("hgfedcba", 0);
        x.fewest(8);
        x.tell("abgh", 0);
        x.fewest(2);
        x.tell("efgh", 0);
        x.fewest(1);
        // The longest first strip, abc, goes with no strip of d and e.
        Asked y = Asked.with("page 8 2;front abc----- ab-d-e--;back ----cde- --------;");
        y.tell("abcde", 0);
        y.fewest(2);
        Sentences.says("-1 if there is no plan;");
        x.tell("z", 1);
        x.fewest(-1);
        x.tell("aaa", 1);
        x.fewest(-1);
        x.tell("abcdefgz", 1);
        x.fewest(-1);
        x.tell("ab", 0);
        x.least(9, 1);
        x.fewest(-1);
        x.least(1, 9);
        x.fewest(1);
        Sentences.says("-2 if the message has more than 8 letters;");
        x.tell("abcdefgha", 1);
        x.fewest(-2);
        x.tell("zzzzzzzzz", 9);
        x.fewest(-2);
        x.tell("a".repeat(24), 22);
        x.fewest(-2);
        Sentences.says("0 if it is empty.");
        x.setup("page 1 1;front a;", 1);
        x.fewest(0);
        new Asked().fewest(0);
    }

    private static void cutOf() {
        Sentences.in("Promise 12");
        Sentences.leaves("- `k`: a cut of the best plan, from 0 - `what`:", "Returns this.");
        Asked x = Asked.with("page 4 2;front abcd efgh;back ijkl mnop;sizes 1 2 3 9;");
        x.tell("pfghji", 0);
        x.fewest(4);
        Sentences.says("0 its letters,");
        cutsOf(x, 0, 1, 3, 1, 1);
        Sentences.says("1 its side,");
        cutsOf(x, 1, 1, 0, 1, 1);
        Sentences.says("2 the number of its first place,");
        cutsOf(x, 2, 7, 5, 1, 0);
        Sentences.says("3 the sum of the sizes of its letters");
        cutsOf(x, 3, 9, 6, 3, 3);
        Asked y = Asked.with("page 8 1;front abcdefgh;sizes 9 1;");
        y.tell("abcdefgh", 0);
        y.cutOf(0, 3, 72);
        Sentences.says("Throws `NoSuchElementException` if there is no best plan, or it has not so many cuts");
        for (int wrong : new int[] {4, -1, LEAST_INT, GREATEST_INT}) {
            x.cutOf(wrong, 0, ELEMENT);
        }
        x.tell("ab", 0);
        x.cutOf(0, 0, 2);
        x.cutOf(1, 0, ELEMENT);
        // d is the back of i.
        x.tell("di", 1);
        x.cutOf(0, 0, ELEMENT);
        x.tell("abcdefghi", 1);
        x.cutOf(0, 0, ELEMENT);
        new Asked().cutOf(0, 0, ELEMENT);
        Sentences.says(WHAT_OUT_OF_RANGE);
        for (int wrong : new int[] {-1, 4, LEAST_INT, GREATEST_INT}) {
            y.cutOf(0, wrong, ARGUMENT);
        }
        y.cutOf(1, 4, ELEMENT);
    }

    private static void cutsOf(Asked x, int what, int... want) {
        for (int k = 0; k < want.length; k++) {
            x.cutOf(k, what, want[k]);
        }
    }

    private static void unevenness() {
        Sentences.in("Promise 13");
        Sentences.says("Returns the sum of the differences (without sign) of the sizes of neighbouring letters of"
                + " the message (of two cuts, too) as the best plan takes them;");
        Asked x = Asked.with("page 4 2;front abcd efgh;back ijkl mnop;sizes 1 9 3 4;");
        String[] messages = {"a", "abcd", "ae", "ea", "abef", "aei", "eia", "aeifjb"};
        int[] want = {0, 0, 8, 8, 8, 14, 8, 28};
        for (int i = 0; i < want.length; i++) {
            x.tell(messages[i], 0);
            x.unevenness(want[i]);
        }
        Sentences.says("-1 if there is no best plan;");
        x.tell("aea", 1);
        x.unevenness(-1);
        x.tell("abcdefghi", 1);
        x.unevenness(-1);
        Sentences.says("0 if the message is empty.");
        new Asked().unevenness(0);
        Asked.with(SIX).unevenness(0);
    }

    private static void copies() {
        Sentences.in("Promise 14");
        Sentences.says("Foretells copies: again and again the best plan for the message is cut, until there is none.");
        // The best plan takes a and b of the front, whose backs are the other strip's: it is cut once, not twice.
        Asked x = Asked.with("page 5 1;front ab---;back --bab;");
        x.tell("ab", 0);
        x.copies(1);
        // No plan is cut in truth.
        x.state(3, 5);
        x.state(5, 0);
        x.cutOf(0, 1, 0);
        x.cutOf(0, 2, 0);
        x.undo(1);
        // The second copy has a plan of more cuts.
        Asked y = Asked.with("page 4 2;front ab-- a-b-;back --ab ----;");
        y.tell("ab", 0);
        y.copies(2);
        Sentences.says("Returns how many times it would be cut;");
        Asked z = Asked.with("page 8 6;front " + "aaaaaaaa ".repeat(6) + ";back " + "aaaaaaaa ".repeat(6) + ";");
        for (int length = 1; length <= 8; length++) {
            z.tell("a".repeat(length), 0);
            z.copies(48 / length);
            z.copies(48 / length);
        }
        Sentences.says("0 if there is no best plan, or the message is empty.");
        z.tell("ab", 1);
        z.copies(0);
        z.tell("aaaaaaaaa", 0);
        z.copies(0);
        new Asked().copies(0);
        Asked.with(SIX).copies(0);
    }

    private static void longest() {
        Sentences.in("Promise 15");
        Sentences.leaves("- `from`: a place in the message, from 0");
        Sentences.says("Returns the length of the longest strip whose letters are those of the message from this"
                + " place on (whatever other cuts take);");
        Asked x = Asked.with("page 8 2;front abcdefgh abx-----;back cde----- --------;sizes 1 2 3 3;");
        x.tell("abcdefgh", 0);
        for (int from = 0; from < 8; from++) {
            x.longest(from, 8 - from);
        }
        x.least(2, 1);
        x.longest(0, 2);
        x.longest(2, 3);
        // A strip that ends behind the message, then one of a long message, whose letters are all taken by others.
        x.tell("zcd", 1);
        x.longest(1, 2);
        x.tell("zzzzzzzzzzzzzzzzzzcdecde", 21);
        x.longest(18, 3);
        x.longest(21, 3);
        x.longest(23, 1);
        Sentences.says("0 if there is none.");
        x.longest(0, 0);
        x.snip(1, 0, 1, 15);
        x.longest(18, 0);
        x.longest(19, 2);
        x.least(9, 2);
        x.longest(23, 0);
        Sentences.says(MESSAGE_TOO_SHORT);
        for (int wrong : new int[] {24, -1, LEAST_INT, GREATEST_INT}) {
            x.longest(wrong, ELEMENT);
        }
        x.tell("ab", 2);
        x.longest(1, 0);
        x.longest(2, ELEMENT);
        new Asked().longest(0, ELEMENT);
    }

    private static void clashes() {
        Sentences.in("Promise 16");
        Sentences.says("Returns the letters of the message that are backs of one another: how many cells have a"
                + " letter of the message that can be used on each of their sides (the same one or another one).");
        // The cells have a and x, a and b, b and a; b and a, - and a, a and a.
        Asked x = Asked.with("page 3 2;front aab b-a;back abx aaa;sizes 2 2 2 1;");
        x.clashes(0);
        String[] messages = {"a", "b", "ab", "ax", "abx", "z", "zzzzzzzzzzzzzzzzzzzzzzab"};
        int[] want = {1, 0, 4, 2, 5, 0, 4};
        int[] missing = {0, 0, 0, 0, 0, 1, 22};
        for (int i = 0; i < want.length; i++) {
            x.tell(messages[i], missing[i]);
            x.clashes(want[i]);
        }
        x.least(2, 1);
        x.clashes(2);
        x.snip(0, 1, 1, 5);
        x.clashes(1);
        x.least(9, 2);
        x.clashes(0);
    }

    private static void meanSize() {
        Sentences.in("Promise 17");
        Sentences.says("Returns the sum of the sizes of the letters as the best plan takes them and the number of"
                + " letters, both converted to double and divided;");
        Asked x = Asked.with("page 4 2;front abcd efgh;back ijkl mnop;sizes 1 9 3 4;");
        String[] messages = {"a", "e", "abcd", "ae", "aei", "abe", "abcefgm"};
        double[] want = {1.0, 9.0, 1.0, 5.0, 13.0 / 3.0, 11.0 / 3.0, 34.0 / 7.0};
        for (int i = 0; i < want.length; i++) {
            x.tell(messages[i], 0);
            x.meanSize(want[i]);
        }
        Sentences.says("0.0 if there is no best plan, or the message is empty.");
        x.tell("aaa", 2);
        x.meanSize(0.0);
        x.tell("abcdefghi", 1);
        x.meanSize(0.0);
        new Asked().meanSize(0.0);
        Asked.with(SIX).meanSize(0.0);
    }

    private static void tell() {
        Sentences.in("Promise 18");
        Sentences.leaves("- `length`: the number of letters");
        Sentences.says("Tells the message: its letters are the first bytes of the input buffer, which is empty"
                + " afterwards.");
        Asked x = Asked.with("page 3 1;front abc;");
        x.feed("cbaz");
        x.tell(3, 0);
        x.state(4, 3);
        x.message(0, 2);
        x.message(1, 1);
        x.message(2, 0);
        x.message(3, ELEMENT);
        x.tell(1, ARGUMENT);
        x.load(1, ARGUMENT);
        x.append(0x61616161, 0x61616161, 0x61616161, 0x61616161, 0x61616161, 20);
        x.tell(20, 19);
        x.feed(" ".repeat(20));
        x.load(41, ARGUMENT);
        x.load(20, -2);
        x.tell("ba", 0);
        x.state(4, 2);
        x.message(2, ELEMENT);
        Sentences.says("Returns how many letters are missing of it.");
        x.load(0, -2);
        x.tell("a", 0);
        x.tell("aa", 1);
        x.tell("zzz", 3);
        x.tell("abcabcabcabcabcabcabcabc", 21);
        x.tell("cab", 0);
    }

    private static void tellWrongly() {
        Sentences.says("Throws `IllegalArgumentException` if length is not 1 to 24, or greater than the length of"
                + " the buffer, or one of these bytes is not a letter a to z; the buffer is unchanged then");
        Asked x = new Asked();
        x.tell(1, ARGUMENT);
        x.feed("abcdefghijklmnopqrstuvwxyz");
        for (int wrong : new int[] {0, -1, 25, 26, 41, LEAST_INT, GREATEST_INT}) {
            x.tell(wrong, ARGUMENT);
        }
        x.tell(24, 24);
        x.message(0, 0);
        x.message(23, 23);
        x.feed("abcdefghijklmnopqrst");
        x.tell(21, ARGUMENT);
        x.tell(20, 20);
        char[] signs = {'`', '{', 'A', 'Z', ' ', '-', '0', ';', 0, 127, 128, 0xe1, 255};
        for (char sign : signs) {
            x.feed("az" + sign);
            x.tell(3, ARGUMENT);
            x.tell(2, 2);
            x.feed(sign + "a");
            x.tell(1, ARGUMENT);
            x.load(1, -2);
            x.errorOffset(sign == ' ' ? 1 : 0);
            x.state(4, 2);
        }
        x.feed("abcdefghijklmnopqrstuvwX");
        x.tell(24, ARGUMENT);
        x.tell(23, 23);
    }

    private static void cut() {
        Sentences.in("Promise 19");
        Sentences.says("Cuts the message by its best plan: all cells that it takes are gone then.");
        Asked x = Asked.with("page 4 2;front abcd efgh;back ijkl mnop;");
        x.tell("bcm", 0);
        Asked y = Asked.with("page 8 1;front abcdefgh;");
        y.tell("abcdefgh", 0);
        Sentences.says("Returns the number of cuts.");
        x.cut(2);
        y.cut(1);
        Sentences.says("Cuts the message by its best plan: all cells that it takes are gone then.");
        x.letters(0, "a..defg.");
        x.letters(1, "i..l.nop");
        x.state(3, 5);
        y.letters(0, "........");
        y.state(3, 0);
        Sentences.says("(The message stays.)");
        x.state(4, 3);
        x.message(0, 1);
        x.message(2, 12);
        x.message(3, ELEMENT);
        x.missing(3);
        Sentences.says("Throws `IllegalStateException` if there is no best plan, or the message is empty");
        x.cut(STATE);
        x.state(5, 2);
        y.cut(STATE);
        // The plan stays until the data change, but not behind a cut.
        y.undo(2);
        y.cut(1);
        y.tell("abcdefgha", 9);
        y.cut(STATE);
        x.tell("abcdefghi", 4);
        x.cut(STATE);
        x.tell("adefgilno", 4);
        x.cut(STATE);
        new Asked().cut(STATE);
        Asked.with(SIX).cut(STATE);
    }

    private static void snip() {
        Sentences.in("Promise 20");
        Sentences.leaves("- `side`: a side - `place`: the first place of a strip - `letters`: its letters, 1 to 8");
        Sentences.says("Makes one cut by hand.");
        Asked x = Asked.with("page 4 2;front abcd ef-h;back ijkl mnop;sizes 2 2 2 1;least 2;");
        x.snip(1, 0, 2, 6);
        x.letters(0, "ab..ef-h");
        x.letters(1, "..klmnop");
        x.state(5, 1);
        x.state(6, 2);
        Sentences.says("Returns the number of cells that are there then.");
        x.snip(0, 0, 2, 4);
        x.snip(0, 7, 1, 3);
        Asked wide = Asked.with("page 8 1;front abcdefgh;");
        wide.snip(0, 0, 8, 0);
        Asked full = Asked.with("page 8 6;front " + "aaaaaaaa ".repeat(6) + ";back " + "aaaaaaaa ".repeat(6) + ";");
        full.snip(1, 40, 8, 40);
        full.snip(1, 39, 1, 39);
        full.letter(0, 32, -2);
        Sentences.says(NO_SIDE_OR_PLACE);
        x.snip(2, 0, 1, INDEX);
        x.snip(-1, 0, 1, INDEX);
        x.snip(0, 8, 1, INDEX);
        x.snip(1, -1, 1, INDEX);
        Sentences.says("Throws `IllegalArgumentException` if letters is out of range");
        for (int wrong : new int[] {0, 9, -1, LEAST_INT, GREATEST_INT}) {
            x.snip(0, 4, wrong, ARGUMENT);
        }
        // Up to 8 on a narrow sheet, too.
        x.snip(0, 4, 8, STATE);
        Sentences.says("Throws `IllegalStateException` if there is no such strip");
        x.undo(3);
        x.undo(2);
        // Over the end of the row, blank, too small, gone.
        x.snip(0, 0, 5, STATE);
        x.snip(0, 5, 4, STATE);
        x.snip(0, 3, 2, STATE);
        x.snip(0, 6, 1, STATE);
        x.snip(0, 4, 3, STATE);
        x.snip(1, 4, 1, STATE);
        x.snip(0, 1, 2, STATE);
        x.snip(0, 2, 1, STATE);
        x.snip(0, 0, 2, 4);
        full.snip(0, 7, 2, STATE);
        full.snip(0, 15, 8, STATE);
        full.snip(0, 23, 2, STATE);
        full.snip(1, 31, 2, STATE);
    }

    private static void least() {
        Sentences.in("Promise 21");
        Sentences.leaves("- `size`: 1 to 9");
        Sentences.says("Sets the least size.");
        Asked x = Asked.with("page 1 1;front a;back b;sizes 5 9;least 3;");
        x.least(5, 3);
        x.state(2, 5);
        x.state(7, 2);
        x.least(6, 5);
        x.state(7, 1);
        x.place(0, 0, 3, 0);
        x.least(9, 6);
        x.place(1, 0, 3, 1);
        x.least(1, 9);
        x.state(2, 1);
        x.tell("a", 0);
        x.fewest(1);
        x.least(6, 1);
        x.fewest(-1);
        x.missing(1);
        Sentences.says("Returns the previous one.");
        for (int size = 1; size <= 9; size++) {
            x.least(size, size == 1 ? 6 : size - 1);
            x.least(size, size);
        }
        Sentences.says("Throws `IllegalArgumentException` if size is out of range");
        for (int wrong : new int[] {0, 10, -1, LEAST_INT, GREATEST_INT}) {
            x.least(wrong, ARGUMENT);
        }
        x.state(2, 9);
    }

    private static void mend() {
        Sentences.in("Promise 22");
        Sentences.leaves("- `cell`: a cell");
        Sentences.says("Glues a cell back that is gone: it is there again.");
        Asked x = Asked.with("page 3 2;front abc def;back ghi jkl;");
        x.snip(1, 3, 3, 3);
        x.snip(0, 0, 1, 2);
        x.tell("df", 2);
        x.fewest(-1);
        Sentences.says("Returns the number of cells that are there then.");
        x.mend(5, 3);
        x.mend(3, 4);
        x.mend(0, 5);
        Sentences.says("Glues a cell back that is gone: it is there again.");
        x.letters(0, "abcd.f");
        x.letters(1, "ghij.l");
        x.missing(0);
        x.fewest(2);
        x.state(7, 10);
        // The cuts were made all the same.
        x.state(5, 2);
        x.state(6, 4);
        Sentences.says("Throws `IndexOutOfBoundsException` if there is no such cell");
        for (int wrong : new int[] {-1, 6, 7, 8, 47, 48, 64, LEAST_INT, GREATEST_INT}) {
            x.mend(wrong, INDEX);
        }
        Sentences.says("Throws `IllegalStateException` if it is there");
        x.mend(0, STATE);
        x.mend(5, STATE);
        x.mend(4, 6);
        x.mend(4, STATE);
        new Asked().mend(0, STATE);
        Asked full = Asked.with("page 8 6;front " + "aaaaaaaa ".repeat(6) + ";");
        full.mend(47, STATE);
        full.snip(0, 47, 1, 47);
        full.mend(46, STATE);
        full.mend(47, 48);
    }

    private static void undo() {
        Sentences.in("Promise 23");
        Sentences.says("Undoes the latest change that is not final and has not been undone.");
        Asked x = Asked.with("page 2 1;front ab;back cd;sizes 2 3;");
        long[] sums = new long[7];
        sums[0] = x.sum();
        x.tell("ab", 0);
        sums[1] = x.sum();
        x.cut(1);
        sums[2] = x.sum();
        x.mend(1, 1);
        sums[3] = x.sum();
        x.least(3, 1);
        sums[4] = x.sum();
        x.snip(1, 0, 1, 0);
        sums[5] = x.sum();
        x.setup("page 3 3;", 9);
        sums[6] = x.sum();
        for (int i = 6; i > 0; i--) {
            x.checksum(sums[i]);
            x.undo(i);
        }
        x.checksum(sums[0]);
        x.tell("ab", 0);
        x.tell("ba", 0);
        x.undo(2);
        x.checksum(sums[1]);
        x.undo(1);
        x.checksum(sums[0]);
        x.undo(0);
        x.states(1, 1, 1, 1, 0, 0, 0, 0);
        // A plan that was told ahead is not told behind it.
        Asked y = Asked.with("page 2 1;front ab;");
        y.tell("ab", 0);
        y.fewest(1);
        y.least(2, 1);
        y.fewest(-1);
        y.undo(2);
        y.fewest(1);
        y.undo(1);
        y.fewest(0);
        Sentences.says("The input buffer and the error offset are not affected.");
        y.setup("page 2 1;front a", -4);
        y.feed("page 3 1;");
        y.undo(0);
        y.undo(-1);
        y.errorOffset(15);
        y.load(21, ARGUMENT);
        y.load(9, 3);
        y.errorOffset(-1);
        y.undo(0);
        y.errorOffset(-1);
        y.append(0, 0, 0, 0, 0, 20);
        Sentences.says("Returns the number of changes that can still be undone;");
        Asked z = new Asked();
        for (int changes = 1; changes <= 12; changes++) {
            z.least(changes % 9 + 1, (changes - 1) % 9 + 1);
            z.undo(Math.min(changes, 8) - 1);
            z.least(changes % 9 + 1, (changes - 1) % 9 + 1);
        }
        for (int left = 7; left >= 0; left--) {
            z.undo(left);
        }
        Sentences.says("-1 if there was none to undo, and nothing changes then.");
        long before = z.sum();
        z.undo(-1);
        z.undo(-1);
        z.checksum(before);
        z.least(1, 5);
        z.undo(0);
        z.undo(-1);
        z.state(2, 5);
        Asked fresh = new Asked();
        fresh.undo(-1);
        fresh.states(1, 1, 1, 1, 0, 0, 0, 0);
        fresh.errorOffset(-1);
    }

    private static void checksum() {
        Sentences.in("Promise 24");
        Sentences.says("Computes a checksum. It starts at 0; each number n in the following order replaces it by 31"
                + " * checksum + n,");
        Sentences.leaves("state(0) to state(7); for the front, then for the back: for each place its letter as"
                + " letter(int, int) tells it, and its size; for each letter of the message its number; missing(),"
                + " fewest() and clashes().");
        new Asked().checksum(sumOf(1, 1, 1, 1, 0, 0, 0, 0, -1, 1, -1, 1, 0, 0, 0));
        Sentences.says("state(0) to state(7); for the front, then for the back: for each place its letter as"
                + " letter(int, int) tells it, and its size; for each letter of the message its number; missing(),"
                + " fewest() and clashes().");
        Asked x = Asked.with("page 2 2;front ab -c;back a- zz;sizes 2 3 4 5;least 2;");
        int[] sheet = {2, 2, 2, 4, 0, 0, 0, 6, 0, 2, 1, 2, -1, 3, 2, 3, 0, 4, -1, 4, 25, 5, 25, 5};
        x.checksum(sumOf(sheet, 0, 0, 0));
        // The a of the back is behind the only b.
        x.tell("zaba", 1);
        sheet[4] = 4;
        x.checksum(sumOf(sheet, 25, 0, 1, 0, 1, -1, 1));
        x.tell("az", 0);
        sheet[4] = 2;
        x.checksum(sumOf(sheet, 0, 25, 0, 2, 0));
        x.snip(0, 3, 1, 3);
        int[] cut = {2, 2, 2, 3, 2, 1, 1, 4, 0, 2, 1, 2, -1, 3, -2, 3, 0, 4, -1, 4, -2, 5, 25, 5};
        x.checksum(sumOf(cut, 0, 25, 0, 2, 0));
        x.tell("aaaaaaaaa", 7);
        cut[4] = 9;
        x.checksum(sumOf(cut, 0, 0, 0, 0, 0, 0, 0, 0, 0, 7, -2, 0));
        Sentences.says("wrapping around on overflow of a long:");
        Asked full = Asked.with("page 8 6;front " + "zzzzzzzz ".repeat(6) + ";back " + "zzzzzzzz ".repeat(6) + ";");
        int[] numbers = new int[8 + 2 * 2 * 48];
        for (int i = 8; i < numbers.length; i++) {
            numbers[i] = i % 2 == 0 ? 25 : 1;
        }
        System.arraycopy(new int[] {8, 6, 1, 48, 0, 0, 0, 96}, 0, numbers, 0, 8);
        full.checksum(sumOf(numbers, 0, 0, 0));
        Sentences.says("Returns the checksum.");
        full.checksum(full.sum());
        full.least(2, 1);
        numbers[2] = 2;
        numbers[7] = 0;
        full.checksum(sumOf(numbers, 0, 0, 0));
    }

    private static long sumOf(int[] sheet, int... rest) {
        int[] all = new int[sheet.length + rest.length];
        System.arraycopy(sheet, 0, all, 0, sheet.length);
        System.arraycopy(rest, 0, all, sheet.length, rest.length);
        return sumOf(all);
    }

    /** Counted in numbers without end, then cut down to the bits of a long. */
    private static long sumOf(int... numbers) {
        java.math.BigInteger sum = java.math.BigInteger.ZERO;
        for (int n : numbers) {
            sum = sum.multiply(java.math.BigInteger.valueOf(31)).add(java.math.BigInteger.valueOf(n));
        }
        return sum.longValue();
    }
}

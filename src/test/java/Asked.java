/**
 * An object whose answers are asked for a sentence of the document: each method takes the arguments of the call, then
 * the answer that is due.
 */
final class Asked {
    static final String INDEX = "throws.IndexOutOfBoundsException";
    static final String ARGUMENT = "throws.IllegalArgumentException";
    static final String STATE = "throws.IllegalStateException";
    static final String ELEMENT = "throws.NoSuchElementException";

    private final LetterCuts x = new LetterCuts();

    /** An object with this setup text loaded. */
    static Asked with(String text) {
        Asked a = new Asked();
        Due.feed(a.x, text);
        Sentences.due("load of '" + text + "'", () -> a.x.load(text.length()) > 0, true);
        return a;
    }

    /** Gives the buffer the bytes of a text, and spaces behind it up to a multiple of 20. */
    Asked feed(String text) {
        Due.feed(x, text);
        return this;
    }

    void append(int w0, int w1, int w2, int w3, int w4, Object want) {
        Sentences.due("append(" + w0 + ", ..)", () -> x.append(w0, w1, w2, w3, w4), want);
    }

    /** Loads what the buffer holds. */
    void load(int length, Object want) {
        Sentences.due("load(" + length + ")", () -> x.load(length), want);
    }

    /** Loads a text, the buffer being empty. */
    void setup(String text, Object want) {
        Due.feed(x, text);
        Sentences.due("load of '" + text + "'", () -> x.load(text.length()), want);
    }

    void errorOffset(Object want) {
        Sentences.due("errorOffset()", () -> x.errorOffset(), want);
    }

    void state(int what, Object want) {
        Sentences.due("state(" + what + ")", () -> x.state(what), want);
    }

    void states(int... want) {
        for (int what = 0; what < want.length; what++) {
            state(what, want[what]);
        }
    }

    void letter(int side, int place, Object want) {
        Sentences.due("letter(" + side + ", " + place + ")", () -> x.letter(side, place), want);
    }

    /** The letters of a side from place 0 on; - for a blank place and . for a cell that is gone. */
    void letters(int side, String want) {
        for (int place = 0; place < want.length(); place++) {
            char sign = want.charAt(place);
            letter(side, place, sign == '-' ? -1 : sign == '.' ? -2 : sign - 'a');
        }
    }

    void place(int side, int place, int what, Object want) {
        Sentences.due("place(" + side + ", " + place + ", " + what + ")", () -> x.place(side, place, what), want);
    }

    void stock(int letter, int what, Object want) {
        Sentences.due("stock(" + letter + ", " + what + ")", () -> x.stock(letter, what), want);
    }

    void message(int k, Object want) {
        Sentences.due("message(" + k + ")", () -> x.message(k), want);
    }

    void missing(Object want) {
        Sentences.due("missing()", () -> x.missing(), want);
    }

    void fewest(Object want) {
        Sentences.due("fewest()", () -> x.fewest(), want);
    }

    void cutOf(int k, int what, Object want) {
        Sentences.due("cutOf(" + k + ", " + what + ")", () -> x.cutOf(k, what), want);
    }

    void unevenness(Object want) {
        Sentences.due("unevenness()", () -> x.unevenness(), want);
    }

    void copies(Object want) {
        Sentences.due("copies()", () -> x.copies(), want);
    }

    void longest(int from, Object want) {
        Sentences.due("longest(" + from + ")", () -> x.longest(from), want);
    }

    void clashes(Object want) {
        Sentences.due("clashes()", () -> x.clashes(), want);
    }

    void meanSize(Object want) {
        Sentences.due("meanSize()", () -> x.meanSize(), want);
    }

    /** Tells what the buffer holds. */
    void tell(int length, Object want) {
        Sentences.due("tell(" + length + ")", () -> x.tell(length), want);
    }

    /** Tells a message, the buffer being empty. */
    void tell(String message, Object want) {
        Due.feed(x, message);
        Sentences.due("tell of '" + message + "'", () -> x.tell(message.length()), want);
    }

    /** Tells a message of which nothing is missing, and compares letters, side and first place of each cut. */
    void plan(String message, int[]... cuts) {
        tell(message, 0);
        fewest(cuts.length);
        for (int k = 0; k < cuts.length; k++) {
            for (int what = 0; what < cuts[k].length; what++) {
                cutOf(k, what, cuts[k][what]);
            }
        }
        cutOf(cuts.length, 0, ELEMENT);
    }

    static int[] cut(int letters, int side, int place) {
        return new int[] {letters, side, place};
    }

    void cut(Object want) {
        Sentences.due("cut()", () -> x.cut(), want);
    }

    void snip(int side, int place, int letters, Object want) {
        Sentences.due("snip(" + side + ", " + place + ", " + letters + ")", () -> x.snip(side, place, letters), want);
    }

    void least(int size, Object want) {
        Sentences.due("least(" + size + ")", () -> x.least(size), want);
    }

    void mend(int cell, Object want) {
        Sentences.due("mend(" + cell + ")", () -> x.mend(cell), want);
    }

    void undo(Object want) {
        Sentences.due("undo()", () -> x.undo(), want);
    }

    void checksum(Object want) {
        Sentences.due("checksum()", () -> x.checksum(), want);
    }

    /** The checksum as it is now, to be compared with a later one. */
    long sum() {
        return x.checksum();
    }
}

import java.util.Arrays;
import java.util.NoSuchElementException;

/** Letters cut from one sheet of a newspaper; what each method answers is promised in the project's document. */
public final class LetterCuts {
    public static final int SYNTAX_ERROR = -2;
    public static final int OUT_OF_RANGE = -3;
    public static final int WRONG_WIDTH = -4;

    private static final int MAX_BYTES = 400;
    private static final int MAX_WIDTH = 8;
    private static final int MAX_HEIGHT = 6;
    private static final int MAX_CELLS = MAX_WIDTH * MAX_HEIGHT;
    private static final int MAX_SIZE = 9;
    private static final int MAX_MESSAGE = 24;
    private static final int MAX_PLANNED = 8;
    private static final int MAX_UNDO = 8;
    private static final int ALPHABET = 26;

    /**
     * A spot is a place, its side told with it, on a sheet of the greatest width and height: so its side, row and
     * column are known without the width of the sheet. Spots have the order in which plans are compared. A cell is
     * kept under the spot of its place on the front.
     */
    private static final int SPOTS = 2 * MAX_CELLS;

    private static final int BLANK = -1;
    private static final int GONE = -2;
    private static final int NO_PLAN = -1;
    private static final int NOT_PLANNED = -2;

    private final byte[] buffer = new byte[MAX_BYTES];
    private int bufferLength = 0;
    private int latestErrorOffset = -1;
    private final Sheet sheet = new Sheet();
    private final Sheet[] past = new Sheet[MAX_UNDO];
    private int pastCount = 0;
    private final SetupReader reader = new SetupReader();
    private final Matching matching = new Matching();
    private final Planner planner = new Planner();
    /** The planner's answer stays good until the data change; copies() uses the planner up, too. */
    private boolean planKnown = false;

    public LetterCuts() {
        for (int i = 0; i < MAX_UNDO; i++) {
            past[i] = new Sheet();
        }
    }

    public int append(int w0, int w1, int w2, int w3, int w4) {
        if (bufferLength + 20 > MAX_BYTES) {
            return -1;
        }
        putWord(w0);
        putWord(w1);
        putWord(w2);
        putWord(w3);
        putWord(w4);
        return bufferLength;
    }

    public int load(int length) throws IllegalArgumentException {
        if (length < 0 || length > bufferLength) {
            throw new IllegalArgumentException();
        }
        int code = reader.read(buffer, length);
        bufferLength = 0;
        latestErrorOffset = reader.errorOffset;
        if (code < 0) {
            return code;
        }
        remember();
        sheet.copyFrom(reader.draft);
        return sheet.countCells();
    }

    public int errorOffset() {
        return latestErrorOffset;
    }

    public int state(int what) throws IllegalArgumentException {
        switch (what) {
            case 0:
                return sheet.width;
            case 1:
                return sheet.height;
            case 2:
                return sheet.leastSize;
            case 3:
                return sheet.countThere();
            case 4:
                return sheet.messageLength;
            case 5:
                return sheet.cutsMade;
            case 6:
                return sheet.lettersCut;
            case 7:
                return sheet.countUsable();
            default:
                throw new IllegalArgumentException();
        }
    }

    public int letter(int side, int place) throws IndexOutOfBoundsException {
        if (!sheet.hasPlace(side, place)) {
            throw new IndexOutOfBoundsException();
        }
        return letterOrGone(sheet.spotOf(side, place));
    }

    public int place(int side, int place, int what) throws IndexOutOfBoundsException, IllegalArgumentException {
        if (!sheet.hasPlace(side, place)) {
            throw new IndexOutOfBoundsException();
        }
        int spot = sheet.spotOf(side, place);
        switch (what) {
            case 0:
                return sheet.placeOf(sheet.cellOf(spot));
            case 1:
                return sheet.sizeAt(spot);
            case 2:
                return sheet.placeOf(sheet.spotBehind(spot));
            case 3:
                return sheet.canUse(spot) ? 1 : 0;
            case 4:
                return sheet.countInMessage(sheet.letterAt(spot));
            default:
                throw new IllegalArgumentException();
        }
    }

    public int stock(int letter, int what) throws IllegalArgumentException {
        if (letter < 0 || letter >= ALPHABET) {
            throw new IllegalArgumentException();
        }
        switch (what) {
            case 0:
                return sheet.countUsableOf(letter);
            case 1:
                return Long.bitCount(sheet.cellsWith(letter));
            case 2:
                return sheet.countInMessage(letter);
            default:
                throw new IllegalArgumentException();
        }
    }

    public int message(int k) throws NoSuchElementException {
        if (!sheet.hasMessageLetter(k)) {
            throw new NoSuchElementException();
        }
        return sheet.messageAt(k);
    }

    public int missing() {
        int without = 0;
        matching.clear();
        for (int k = 0; k < sheet.messageLength; k++) {
            if (!matching.give(sheet.cellsWith(sheet.messageAt(k)))) {
                without++;
            }
        }
        return without;
    }

    public int fewest() {
        return bestCuts();
    }

    public int cutOf(int k, int what) throws NoSuchElementException, IllegalArgumentException {
        if (k < 0 || k >= bestCuts()) {
            throw new NoSuchElementException();
        }
        switch (what) {
            case 0:
                return planner.lengthOfCut(k);
            case 1:
                return sideOf(planner.spotOfCut(k));
            case 2:
                return sheet.placeOf(planner.spotOfCut(k));
            case 3:
                return sizesOfCut(k);
            default:
                throw new IllegalArgumentException();
        }
    }

    public int unevenness() {
        int cuts = bestCuts();
        if (cuts < 0) {
            return -1;
        }
        int sum = 0;
        // The letters of one cut stand in one row, so they differ from the neighbouring cut alone.
        for (int k = 1; k < cuts; k++) {
            sum += Math.abs(sizeOfCut(k) - sizeOfCut(k - 1));
        }
        return sum;
    }

    public int copies() {
        if (bestCuts() <= 0) {
            return 0;
        }
        planKnown = false;
        long taken = 0;
        int times = 0;
        // Each copy takes a cell at least.
        while (times < MAX_CELLS && planner.choose(taken) > 0) {
            taken |= planner.cells;
            times++;
        }
        return times;
    }

    public int longest(int from) throws NoSuchElementException {
        if (!sheet.hasMessageLetter(from)) {
            throw new NoSuchElementException();
        }
        int most = 0;
        for (int spot = 0; spot < SPOTS; spot++) {
            most = Math.max(most, sheet.lettersFrom(spot, from));
        }
        return most;
    }

    public int clashes() {
        int count = 0;
        for (int cell = 0; cell < MAX_CELLS; cell++) {
            if (isUsedByMessage(cell) && isUsedByMessage(sheet.spotBehind(cell))) {
                count++;
            }
        }
        return count;
    }

    public double meanSize() {
        int cuts = bestCuts();
        if (cuts <= 0 || sheet.messageLength <= 0) {
            return 0.0;
        }
        int sum = 0;
        for (int k = 0; k < cuts; k++) {
            sum += sizesOfCut(k);
        }
        return (double) sum / (double) sheet.messageLength;
    }

    public int tell(int length) throws IllegalArgumentException {
        if (length < 1 || length > MAX_MESSAGE || length > bufferLength || !startsWithLetters(length)) {
            throw new IllegalArgumentException();
        }
        remember();
        for (int k = 0; k < length; k++) {
            sheet.message[k] = buffer[k] - 'a';
        }
        sheet.messageLength = length;
        bufferLength = 0;
        return missing();
    }

    public int cut() throws IllegalStateException {
        int cuts = bestCuts();
        if (cuts <= 0) {
            throw new IllegalStateException();
        }
        remember();
        sheet.take(planner.cells, cuts);
        return cuts;
    }

    public int snip(int side, int place, int letters)
            throws IndexOutOfBoundsException, IllegalArgumentException, IllegalStateException {
        if (!sheet.hasPlace(side, place)) {
            throw new IndexOutOfBoundsException();
        }
        if (letters < 1 || letters > MAX_WIDTH) {
            throw new IllegalArgumentException();
        }
        int spot = sheet.spotOf(side, place);
        if (!sheet.isStrip(spot, letters)) {
            throw new IllegalStateException();
        }
        remember();
        sheet.take(sheet.cellsOfStrip(spot, letters), 1);
        return sheet.countThere();
    }

    public int least(int size) throws IllegalArgumentException {
        if (size < 1 || size > MAX_SIZE) {
            throw new IllegalArgumentException();
        }
        remember();
        int previous = sheet.leastSize;
        sheet.leastSize = size;
        return previous;
    }

    public int mend(int cell) throws IndexOutOfBoundsException, IllegalStateException {
        if (cell < 0 || cell >= sheet.countCells()) {
            throw new IndexOutOfBoundsException();
        }
        int spot = sheet.spotOf(0, cell);
        if (sheet.isThere(spot)) {
            throw new IllegalStateException();
        }
        remember();
        sheet.gone &= ~(1L << spot);
        return sheet.countThere();
    }

    public int undo() {
        if (pastCount <= 0 || pastCount > MAX_UNDO) {
            return -1;
        }
        pastCount--;
        Sheet latest = past[pastCount];
        if (latest != null) {
            sheet.copyFrom(latest);
        }
        planKnown = false;
        return pastCount;
    }

    public long checksum() {
        long sum = 0;
        for (int what = 0; what <= 7; what++) {
            sum = 31 * sum + state(what);
        }
        for (int spot = 0; spot < SPOTS; spot++) {
            if (sheet.hasSpot(spot)) {
                sum = 31 * sum + letterOrGone(spot);
                sum = 31 * sum + sheet.sizeAt(spot);
            }
        }
        for (int k = 0; k < sheet.messageLength; k++) {
            sum = 31 * sum + sheet.messageAt(k);
        }
        sum = 31 * sum + missing();
        sum = 31 * sum + bestCuts();
        return 31 * sum + clashes();
    }

    private void putWord(int word) {
        for (int shift = 24; shift >= 0; shift -= 8) {
            if (bufferLength >= 0 && bufferLength < MAX_BYTES) {
                buffer[bufferLength] = (byte) (word >> shift);
                bufferLength++;
            }
        }
    }

    private boolean startsWithLetters(int length) {
        for (int k = 0; k < length && k < MAX_BYTES; k++) {
            if (!isLetter(buffer[k])) {
                return false;
            }
        }
        return true;
    }

    /** Called ahead of every change, so that the data of before can come back. */
    private void remember() {
        planKnown = false;
        if (pastCount >= MAX_UNDO) {
            makeOldestFinal();
        }
        Sheet kept = pastCount >= 0 && pastCount < MAX_UNDO ? past[pastCount] : null;
        if (kept != null) {
            kept.copyFrom(sheet);
            pastCount++;
        }
    }

    /** Its sheet comes last then, to be written anew. */
    private void makeOldestFinal() {
        Sheet oldest = past[0];
        for (int i = 1; i < MAX_UNDO; i++) {
            past[i - 1] = past[i];
        }
        past[MAX_UNDO - 1] = oldest;
        pastCount = MAX_UNDO - 1;
    }

    private int letterOrGone(int spot) {
        return sheet.isThere(sheet.cellOf(spot)) ? sheet.letterAt(spot) : GONE;
    }

    private boolean isUsedByMessage(int spot) {
        return sheet.canUse(spot) && sheet.countInMessage(sheet.letterAt(spot)) > 0;
    }

    private int bestCuts() {
        if (sheet.messageLength > MAX_PLANNED) {
            return NOT_PLANNED;
        }
        if (!planKnown) {
            planner.prepare(sheet);
            planner.choose(0);
            planKnown = true;
        }
        return planner.cuts;
    }

    private int sizeOfCut(int k) {
        return sheet.sizeAt(planner.spotOfCut(k));
    }

    private int sizesOfCut(int k) {
        return planner.lengthOfCut(k) * sizeOfCut(k);
    }

    private static boolean isLetter(int sign) {
        return sign >= 'a' && sign <= 'z';
    }

    private static int sideOf(int spot) {
        return spot < MAX_CELLS ? 0 : 1;
    }

    private static int rowOf(int spot) {
        return spot % MAX_CELLS / MAX_WIDTH;
    }

    private static int columnOf(int spot) {
        return spot % MAX_WIDTH;
    }

    /** All data that a change may alter and undo() brings back. */
    private static final class Sheet {
        private int width;
        private int height;
        private int leastSize;
        private final int[] letters = new int[SPOTS];
        /** Of the rows of the front, then of the back, as many as there can be: a row has MAX_WIDTH spots. */
        private final int[] sizes = new int[2 * MAX_HEIGHT];
        /** The cells that are gone, a bit each. */
        private long gone;
        private final int[] message = new int[MAX_MESSAGE];
        private int messageLength;
        private int cutsMade;
        private int lettersCut;

        private Sheet() {
            startAnew(1, 1);
        }

        private void startAnew(int newWidth, int newHeight) {
            width = newWidth;
            height = newHeight;
            leastSize = 1;
            Arrays.fill(letters, BLANK);
            Arrays.fill(sizes, 1);
            gone = 0;
            messageLength = 0;
            cutsMade = 0;
            lettersCut = 0;
        }

        private void copyFrom(Sheet other) {
            width = other.width;
            height = other.height;
            leastSize = other.leastSize;
            System.arraycopy(other.letters, 0, letters, 0, SPOTS);
            System.arraycopy(other.sizes, 0, sizes, 0, 2 * MAX_HEIGHT);
            gone = other.gone;
            System.arraycopy(other.message, 0, message, 0, MAX_MESSAGE);
            messageLength = other.messageLength;
            cutsMade = other.cutsMade;
            lettersCut = other.lettersCut;
        }

        private int countCells() {
            return width * height;
        }

        private boolean hasPlace(int side, int place) {
            return (side == 0 || side == 1) && place >= 0 && place < countCells();
        }

        private boolean hasSpot(int spot) {
            return spot >= 0 && spot < SPOTS && rowOf(spot) < height && columnOf(spot) < width;
        }

        private int spotOf(int side, int place) {
            int row = width > 0 ? place / width : 0;
            return side * MAX_CELLS + row * MAX_WIDTH + place - row * width;
        }

        private int placeOf(int spot) {
            return rowOf(spot) * width + columnOf(spot);
        }

        private int spotBehind(int spot) {
            int otherSide = sideOf(spot) == 0 ? spot + MAX_CELLS : spot - MAX_CELLS;
            return otherSide - columnOf(spot) + width - 1 - columnOf(spot);
        }

        private int cellOf(int spot) {
            return sideOf(spot) == 0 ? spot : spotBehind(spot);
        }

        private int letterAt(int spot) {
            return hasSpot(spot) ? letters[spot] : BLANK;
        }

        private int sizeAt(int spot) {
            return hasSpot(spot) ? sizes[spot / MAX_WIDTH] : 1;
        }

        private boolean isThere(int cell) {
            return (gone & (1L << cell)) == 0;
        }

        private boolean canUse(int spot) {
            return letterAt(spot) != BLANK && isThere(cellOf(spot)) && sizeAt(spot) >= leastSize;
        }

        private int countThere() {
            return countCells() - Long.bitCount(gone);
        }

        private int countUsable() {
            int count = 0;
            for (int spot = 0; spot < SPOTS; spot++) {
                if (canUse(spot)) {
                    count++;
                }
            }
            return count;
        }

        private int countUsableOf(int letter) {
            int count = 0;
            for (int spot = 0; spot < SPOTS; spot++) {
                if (letterAt(spot) == letter && canUse(spot)) {
                    count++;
                }
            }
            return count;
        }

        private long cellsWith(int letter) {
            long cells = 0;
            for (int spot = 0; spot < SPOTS; spot++) {
                if (letterAt(spot) == letter && canUse(spot)) {
                    cells |= 1L << cellOf(spot);
                }
            }
            return cells;
        }

        private boolean hasMessageLetter(int k) {
            return k >= 0 && k < messageLength && k < MAX_MESSAGE;
        }

        private int messageAt(int k) {
            return hasMessageLetter(k) ? message[k] : BLANK;
        }

        private int countInMessage(int letter) {
            int count = 0;
            for (int k = 0; k < messageLength; k++) {
                if (messageAt(k) == letter) {
                    count++;
                }
            }
            return count;
        }

        private boolean isStrip(int spot, int length) {
            if (columnOf(spot) + length > width) {
                return false;
            }
            for (int i = 0; i < length; i++) {
                if (!canUse(spot + i)) {
                    return false;
                }
            }
            return true;
        }

        private long cellsOfStrip(int spot, int length) {
            long cells = 0;
            for (int i = 0; i < length; i++) {
                cells |= 1L << cellOf(spot + i);
            }
            return cells;
        }

        /** How many letters of the message from a place on the longest strip from this spot on takes. */
        private int lettersFrom(int spot, int from) {
            int room = width - columnOf(spot);
            int length = 0;
            while (length < room && letterAt(spot + length) == messageAt(from + length) && canUse(spot + length)) {
                length++;
            }
            return length;
        }

        private void take(long cells, int cuts) {
            gone |= cells;
            cutsMade += cuts;
            lettersCut += Long.bitCount(cells);
        }
    }

    /** Reads a setup text into a draft, so that an error leaves the sheet as it was. */
    private static final class SetupReader {
        private static final String PAGE = "page";
        private static final String FRONT = "front";
        private static final String BACK = "back";
        private static final String SIZES = "sizes";
        private static final String LEAST = "least";
        private static final int STATEMENTS = 4;

        /** Above every range, and far from an overflow. */
        private static final int TOO_GREAT = 1000;

        private final Sheet draft = new Sheet();
        private final byte[] text = new byte[MAX_BYTES];
        private int length;
        private int at;
        private int error;
        private int errorOffset = -1;
        private boolean hasFront;
        private boolean hasBack;
        private boolean hasSizes;
        private boolean hasLeast;

        /** Answers an error code, or 0. */
        private int read(byte[] bytes, int count) {
            length = Math.max(0, Math.min(count, Math.min(MAX_BYTES, bytes.length)));
            System.arraycopy(bytes, 0, text, 0, length);
            at = 0;
            error = 0;
            errorOffset = -1;
            hasFront = false;
            hasBack = false;
            hasSizes = false;
            hasLeast = false;
            readPage();
            // One statement more than there can be fails by itself.
            for (int i = 0; i <= STATEMENTS && error == 0 && hasMore(); i++) {
                readStatement();
            }
            return error;
        }

        private void readPage() {
            skipSpaces();
            int start = at;
            skipWord();
            if (!isWord(start, PAGE)) {
                fail(SYNTAX_ERROR, start);
            }
            int width = readNumber(MAX_WIDTH);
            int height = readNumber(MAX_HEIGHT);
            readSemicolon();
            if (error == 0) {
                draft.startAnew(width, height);
            }
        }

        private void readStatement() {
            int start = at;
            skipWord();
            if (isWord(start, FRONT) && !hasFront) {
                hasFront = true;
                readLines(0);
            } else if (isWord(start, BACK) && !hasBack) {
                hasBack = true;
                readLines(1);
            } else if (isWord(start, SIZES) && !hasSizes) {
                hasSizes = true;
                readSizes();
            } else if (isWord(start, LEAST) && !hasLeast) {
                hasLeast = true;
                draft.leastSize = readNumber(MAX_SIZE);
            } else {
                fail(SYNTAX_ERROR, start);
            }
            readSemicolon();
        }

        private void readLines(int side) {
            for (int row = 0; row < draft.height; row++) {
                readLine(side * MAX_CELLS + row * MAX_WIDTH);
            }
        }

        private void readLine(int spot) {
            skipSpaces();
            int start = at;
            while (at < length && (isLetter(text[at]) || text[at] == '-')) {
                at++;
            }
            if (at == start) {
                fail(SYNTAX_ERROR, start);
            } else if (at - start != draft.width) {
                fail(WRONG_WIDTH, start);
            }
            if (error != 0) {
                return;
            }
            for (int i = 0; i < draft.width; i++) {
                if (spot + i < SPOTS && start + i < length) {
                    draft.letters[spot + i] = isLetter(text[start + i]) ? text[start + i] - 'a' : BLANK;
                }
            }
        }

        private void readSizes() {
            for (int side = 0; side <= 1; side++) {
                for (int row = 0; row < draft.height && row < MAX_HEIGHT; row++) {
                    draft.sizes[side * MAX_HEIGHT + row] = readNumber(MAX_SIZE);
                }
            }
        }

        private int readNumber(int most) {
            skipSpaces();
            int start = at;
            int value = 0;
            while (at < length && text[at] >= '0' && text[at] <= '9') {
                value = Math.min(TOO_GREAT, value * 10 + text[at] - '0');
                at++;
            }
            if (at == start) {
                fail(SYNTAX_ERROR, start);
            } else if (value < 1 || value > most) {
                fail(OUT_OF_RANGE, start);
            }
            return value;
        }

        private void readSemicolon() {
            skipSpaces();
            if (at < length && text[at] == ';') {
                at++;
            } else {
                fail(SYNTAX_ERROR, at);
            }
        }

        private void skipSpaces() {
            while (at < length && text[at] == ' ') {
                at++;
            }
        }

        private boolean hasMore() {
            skipSpaces();
            return at < length;
        }

        private void skipWord() {
            while (at < length && isLetter(text[at])) {
                at++;
            }
        }

        private boolean isWord(int start, String word) {
            if (start < 0 || at - start != word.length()) {
                return false;
            }
            for (int i = 0; i < word.length() && start + i < length; i++) {
                if (text[start + i] != word.charAt(i)) {
                    return false;
                }
            }
            return true;
        }

        /** What is read on behind an error lies behind it in the text, so the first error found is the first one. */
        private void fail(int code, int offset) {
            if (error == 0) {
                error = code;
                errorOffset = offset;
            }
        }
    }

    /** Gives different cells to letters, one letter after the other, as many letters as can be. */
    private static final class Matching {
        private static final int NOBODY = -1;

        private final long[] choices = new long[MAX_MESSAGE];
        private final int[] holders = new int[MAX_CELLS];
        private int given;
        private long tried;

        private void clear() {
            given = 0;
            Arrays.fill(holders, NOBODY);
        }

        /** Whether one more letter gets one of these cells; one that gets none now would get none later. */
        private boolean give(long cells) {
            if (given < 0 || given >= MAX_MESSAGE) {
                return false;
            }
            choices[given] = cells;
            tried = 0;
            if (!findCell(given, 0)) {
                return false;
            }
            given++;
            return true;
        }

        private boolean findCell(int letter, int depth) {
            if (letter < 0 || letter >= MAX_MESSAGE) {
                return false;
            }
            for (int cell = 0; cell < MAX_CELLS; cell++) {
                long bit = 1L << cell;
                if ((choices[letter] & ~tried & bit) != 0) {
                    tried |= bit;
                    if (holders[cell] == NOBODY || canMove(holders[cell], depth)) {
                        holders[cell] = letter;
                        return true;
                    }
                }
            }
            return false;
        }

        /** Each cell is tried once, so no more letters move than hold one. */
        private boolean canMove(int letter, int depth) {
            return depth < MAX_MESSAGE && findCell(letter, depth + 1);
        }
    }

    /**
     * Finds the best plan. A plan is there if every letter can get a cell of its own; each strip then saves one cut
     * less than it has letters. So only strips of two and more letters are tried out, and letters that are cut alone
     * are left to the matching: trying their places out, too, would take millions of steps on some sheets.
     */
    private static final class Planner {
        private final Matching matching = new Matching();
        private final long[] cellsOfLetter = new long[MAX_PLANNED];
        private final long[] cellBits = new long[SPOTS];
        /** For each letter of the message and each spot, the letters of the longest strip. */
        private final int[][] runs = new int[MAX_PLANNED][SPOTS];
        /** The cuts that strips from a letter on can save, if strips took nothing from one another. */
        private final int[] mostSaved = new int[MAX_PLANNED + 1];
        private int letters;

        private final int[] cutSpots = new int[MAX_PLANNED];
        private final int[] cutLengths = new int[MAX_PLANNED];
        private int cuts;
        private long cells;

        private int spotOfCut(int k) {
            return k >= 0 && k < cuts && k < MAX_PLANNED ? cutSpots[k] : 0;
        }

        private int lengthOfCut(int k) {
            return k >= 0 && k < cuts && k < MAX_PLANNED ? cutLengths[k] : 0;
        }

        private void prepare(Sheet sheet) {
            letters = Math.max(0, Math.min(MAX_PLANNED, sheet.messageLength));
            for (int spot = 0; spot < SPOTS; spot++) {
                cellBits[spot] = sheet.hasSpot(spot) ? 1L << sheet.cellOf(spot) : 0;
            }
            mostSaved[letters] = 0;
            for (int from = letters - 1; from >= 0; from--) {
                cellsOfLetter[from] = sheet.cellsWith(sheet.messageAt(from));
                for (int spot = 0; spot < SPOTS; spot++) {
                    runs[from][spot] = sheet.lettersFrom(spot, from);
                }
                mostSaved[from] = boundSaved(from);
            }
        }

        private int boundSaved(int from) {
            int most = mostSaved[from + 1];
            for (int spot = 0; spot < SPOTS; spot++) {
                for (int length = 2; length <= runs[from][spot] && from + length <= letters; length++) {
                    most = Math.max(most, length - 1 + mostSaved[from + length]);
                }
            }
            return most;
        }

        /** Makes the best plan that leaves the taken cells alone; answers its cuts, or NO_PLAN. */
        private int choose(long taken) {
            cuts = 0;
            cells = 0;
            if (!canSpell(0, 0, taken)) {
                cuts = NO_PLAN;
                return cuts;
            }
            int need = mostSaved[0];
            while (need > 0 && !canSave(0, 0, taken, need)) {
                need--;
            }
            int from = 0;
            for (int k = 0; k < MAX_PLANNED && from < letters; k++) {
                int length = chooseCut(from, taken | cells, need);
                need -= length - 1;
                from += length;
            }
            return cuts;
        }

        /** Adds the first cut, in the order of plans, behind which the rest can save what it must; answers its letters. */
        private int chooseCut(int from, long taken, int need) {
            for (int length = letters - from; length >= 1; length--) {
                for (int spot = 0; spot < SPOTS; spot++) {
                    long strip = freeStrip(from, spot, length, taken);
                    if (strip != 0 && cuts < MAX_PLANNED
                            && canSave(from + length, 0, taken | strip, need - length + 1)) {
                        cutSpots[cuts] = spot;
                        cutLengths[cuts] = length;
                        cuts++;
                        cells |= strip;
                        return length;
                    }
                }
            }
            return 0;
        }

        /** The cells of a strip with the letters of the message; 0 if there is none or if one of them is taken. */
        private long freeStrip(int from, int spot, int length, long taken) {
            if (from < 0 || from >= MAX_PLANNED || spot < 0 || spot + length > SPOTS || runs[from][spot] < length) {
                return 0;
            }
            long strip = 0;
            for (int i = 0; i < length; i++) {
                strip |= cellBits[spot + i];
            }
            return (strip & taken) == 0 ? strip : 0;
        }

        /**
         * Whether the letters from a place on, and those that were left to be cut alone (a bit each), can be cut so
         * that strips save so many cuts. Each level takes two letters at least, so there are few.
         */
        private boolean canSave(int from, int alone, long taken, int need) {
            if (!canSpell(from, alone, taken)) {
                return false;
            }
            int leftAlone = alone;
            for (int start = from; need > 0 && start < letters && mostSaved[start] >= need; start++) {
                if (canSaveAt(start, leftAlone, taken, need)) {
                    return true;
                }
                leftAlone |= 1 << start;
            }
            return need <= 0;
        }

        private boolean canSaveAt(int start, int alone, long taken, int need) {
            if (start < 0 || start >= letters) {
                return false;
            }
            for (int spot = 0; spot < SPOTS; spot++) {
                for (int length = runs[start][spot]; length >= 2; length--) {
                    long strip = freeStrip(start, spot, length, taken);
                    if (strip != 0 && canSave(start + length, alone, taken | strip, need - length + 1)) {
                        return true;
                    }
                }
            }
            return false;
        }

        /** Whether the letters from a place on, and those alone, can all get cells of their own. */
        private boolean canSpell(int from, int alone, long taken) {
            matching.clear();
            for (int k = 0; k < letters; k++) {
                boolean isOpen = k >= from || (alone & (1 << k)) != 0;
                if (isOpen && !matching.give(cellsOfLetter[k] & ~taken)) {
                    return false;
                }
            }
            return true;
        }
    }
}

import java.util.Random;

/** Compares random runs of up to 512 calls, wrong arguments among them, with the naive model. */
public final class RandomRunsTest {
    private static final int RUNS = 4000;
    private static final int[] EXTREMES = {Integer.MIN_VALUE, Integer.MAX_VALUE, Integer.MIN_VALUE + 1,
        Integer.MAX_VALUE - 1, 1 << 16, -(1 << 16), 1 << 30};

    private final Random random;
    private final LetterCuts x = new LetterCuts();
    private final Model m = new Model();
    private final int alphabet;
    private final int greatestWidth;
    private final int greatestHeight;
    private final String name;

    private RandomRunsTest(int seed) {
        random = new Random(seed);
        name = "run " + seed + ", call ";
        alphabet = 1 + random.nextInt(seed % 3 == 0 ? 6 : 3);
        boolean large = seed % 5 == 0;
        greatestWidth = large ? 9 : 5;
        greatestHeight = large ? 7 : 3;
    }

    public static void main(String[] args) {
        int first = args.length > 0 ? Integer.parseInt(args[0]) : 1;
        int runs = args.length > 1 ? Integer.parseInt(args[1]) : RUNS;
        for (int seed = first; seed < first + runs && Due.wrong() < 20; seed++) {
            new RandomRunsTest(seed).run();
        }
        Due.finish();
    }

    private void run() {
        int calls = random.nextInt(10) == 0 ? 400 : 60;
        for (int i = 0; i < calls && Due.wrong() < 20; i++) {
            step(i);
        }
    }

    private int near(int most) {
        if (random.nextInt(60) == 0) {
            return EXTREMES[random.nextInt(EXTREMES.length)];
        }
        return random.nextInt(8) == 0 ? random.nextInt(5) - 2 + (random.nextBoolean() ? most : 0)
                : random.nextInt(most + 1);
    }

    private int cells() {
        return m.state(0) * m.state(1);
    }

    private int side() {
        return random.nextInt(20) == 0 ? near(1) : random.nextInt(2);
    }

    private int place() {
        return random.nextInt(20) == 0 ? near(cells()) : random.nextInt(cells());
    }

    private void step(int i) {
        String at = name + i + ": ";
        int what = random.nextInt(25);
        if (i == 0 || what == 0) {
            give(at, setupText());
            load(at);
        } else if (i == 1 || what <= 2) {
            give(at, messageText());
            tell(at);
        } else if (what <= 6) {
            change(at, what);
        } else if (what <= 10) {
            undo(at);
        } else {
            ask(at, what);
        }
        if (random.nextInt(4) == 0) {
            Due.due(at + "checksum()", () -> x.checksum(), m.checksum());
        }
    }

    private void give(String at, String text) {
        for (int start = 0; start < text.length(); start += 20) {
            int[] w = new int[5];
            for (int i = 0; i < 20; i++) {
                int sign = start + i < text.length() ? text.charAt(start + i) : random.nextInt(200);
                w[i / 4] = w[i / 4] << 8 | sign & 255;
            }
            Due.due(at + "append", () -> x.append(w[0], w[1], w[2], w[3], w[4]), m.append(w[0], w[1], w[2], w[3], w[4]));
        }
        given = text.length();
    }

    private int given;

    private void load(String at) {
        int n = random.nextInt(20) == 0 ? given + random.nextInt(40) - 20 : given;
        Due.due(at + "load(" + n + ")", () -> x.load(n), Due.answer(() -> m.load(n)));
        Due.due(at + "errorOffset()", () -> x.errorOffset(), m.errorOffset());
    }

    private void tell(String at) {
        int n = random.nextInt(12) == 0 ? given + random.nextInt(30) - 10 : given;
        Due.due(at + "tell(" + n + ")", () -> x.tell(n), Due.answer(() -> m.tell(n)));
        if (random.nextBoolean()) {
            Due.due(at + "load(0)", () -> x.load(0), m.load(0));
        }
    }

    private void change(String at, int what) {
        int side = side();
        int place = place();
        int n = random.nextInt(3) == 0 ? near(8) : 1 + random.nextInt(3);
        switch (what) {
            case 3 -> Due.due(at + "cut()", () -> x.cut(), Due.answer(() -> m.cut()));
            case 4 -> Due.due(at + "snip(" + side + ", " + place + ", " + n + ")", () -> x.snip(side, place, n),
                    Due.answer(() -> m.snip(side, place, n)));
            case 5 -> Due.due(at + "least(" + n + ")", () -> x.least(n), Due.answer(() -> m.least(n)));
            default -> Due.due(at + "mend(" + place + ")", () -> x.mend(place), Due.answer(() -> m.mend(place)));
        }
    }

    private void undo(String at) {
        int times = random.nextInt(15) == 0 ? 10 : random.nextInt(2);
        for (int i = 0; i < times; i++) {
            Due.due(at + "undo()", () -> x.undo(), m.undo());
        }
    }

    private void ask(String at, int kind) {
        int side = side();
        int place = place();
        int what = near(7);
        int k = near(4);
        int letter = random.nextInt(10) == 0 ? near(25) : random.nextInt(alphabet);
        switch (kind) {
            case 11 -> Due.due(at + "state(" + what + ")", () -> x.state(what), Due.answer(() -> m.state(what)));
            case 12 -> Due.due(at + "letter", () -> x.letter(side, place), Due.answer(() -> m.letter(side, place)));
            case 13, 14 -> Due.due(at + "place(" + side + ", " + place + ", " + what + ")",
                    () -> x.place(side, place, what), Due.answer(() -> m.place(side, place, what)));
            case 15 -> Due.due(at + "stock(" + letter + ", " + k + ")", () -> x.stock(letter, k),
                    Due.answer(() -> m.stock(letter, k)));
            case 16 -> Due.due(at + "message(" + k + ")", () -> x.message(k), Due.answer(() -> m.message(k)));
            case 17 -> Due.due(at + "missing()", () -> x.missing(), m.missing());
            case 18 -> Due.due(at + "fewest()", () -> x.fewest(), m.fewest());
            case 19, 20 -> plan(at);
            case 21 -> Due.due(at + "unevenness()", () -> x.unevenness(), m.unevenness());
            case 22 -> Due.due(at + "copies()", () -> x.copies(), m.copies());
            case 23 -> Due.due(at + "longest(" + what + ")", () -> x.longest(what), Due.answer(() -> m.longest(what)));
            default -> {
                Due.due(at + "clashes()", () -> x.clashes(), m.clashes());
                Due.due(at + "meanSize()", () -> x.meanSize(), m.meanSize());
            }
        }
    }

    private void plan(String at) {
        for (int cut = -1; cut < 9; cut++) {
            int k = cut;
            int what = near(3);
            Due.due(at + "cutOf(" + k + ", " + what + ")", () -> x.cutOf(k, what), Due.answer(() -> m.cutOf(k, what)));
        }
    }

    private String messageText() {
        int most = random.nextBoolean() && greatestHeight < 5 ? 8 : 5;
        int length = random.nextInt(12) == 0 ? 9 + random.nextInt(17) : 1 + random.nextInt(most);
        StringBuilder text = new StringBuilder();
        for (int i = 0; i < length; i++) {
            text.append(letter());
        }
        return random.nextInt(25) == 0 ? hurt(text.toString()) : text.toString();
    }

    private char letter() {
        return (char) ('a' + random.nextInt(random.nextInt(30) == 0 ? alphabet + 1 : alphabet));
    }

    private String setupText() {
        int width = random.nextInt(40) == 0 ? 0 : 1 + random.nextInt(greatestWidth);
        if (greatestWidth > 8 && random.nextInt(3) == 0) {
            width = 8;
        }
        int height = random.nextInt(40) == 0 ? 0 : 1 + random.nextInt(greatestHeight);
        StringBuilder text = new StringBuilder(gap(0) + "page" + gap(0) + number(width) + gap(1) + number(height));
        text.append(gap(0)).append(';');
        String[] words = {"front", "back", "sizes", "least"};
        int shift = random.nextInt(4);
        for (int i = 0; i < 4 + (random.nextInt(20) == 0 ? 1 : 0); i++) {
            String word = words[(i + shift) % 4];
            if (random.nextInt(8) != 0) {
                text.append(gap(0)).append(word).append(statement(word, width, height)).append(gap(0)).append(';');
            }
        }
        text.append(gap(0));
        return random.nextInt(6) == 0 ? hurt(text.toString()) : text.toString();
    }

    private String statement(String word, int width, int height) {
        StringBuilder text = new StringBuilder();
        if (word.equals("least")) {
            return text.append(gap(0)).append(number(random.nextInt(30) == 0 ? 10 : 1 + random.nextInt(3))).toString();
        }
        int count = (word.equals("sizes") ? 2 * height : height) + (random.nextInt(30) == 0 ? 1 : 0)
                - (random.nextInt(30) == 0 ? 1 : 0);
        for (int i = 0; i < count; i++) {
            if (word.equals("sizes")) {
                text.append(gap(i == 0 ? 0 : 1)).append(number(random.nextInt(50) == 0 ? 0 : 1 + random.nextInt(9)));
            } else {
                String line = line(width + (random.nextInt(60) == 0 ? random.nextInt(3) - 1 : 0));
                text.append(gap(i == 0 && line.startsWith("-") ? 0 : 1)).append(line);
            }
        }
        return text.toString();
    }

    private String line(int length) {
        StringBuilder text = new StringBuilder();
        for (int i = 0; i < length; i++) {
            text.append(random.nextInt(7) == 0 ? '-' : letter());
        }
        return text.toString();
    }

    private String number(int n) {
        return (random.nextInt(15) == 0 ? "0".repeat(random.nextInt(4)) : "") + n;
    }

    private String gap(int least) {
        return " ".repeat(least + (random.nextInt(12) == 0 ? random.nextInt(3) : 0));
    }

    private String hurt(String text) {
        if (text.isEmpty()) {
            return text;
        }
        int at = random.nextInt(text.length());
        String signs = "  ;;--az09A\t\0\u00e4pfbsl";
        char sign = random.nextInt(10) == 0 ? (char) random.nextInt(256) : signs.charAt(random.nextInt(signs.length()));
        return switch (random.nextInt(4)) {
            case 0 -> text.substring(0, at) + text.substring(at + 1);
            case 1 -> text.substring(0, at);
            case 2 -> text.substring(0, at) + sign + text.substring(at);
            default -> text.substring(0, at) + sign + text.substring(at + 1);
        };
    }
}

import java.util.Random;

/**
 * Sheets on which a search cut by cut would not end in a lifetime: letters with many places each, and strips that get
 * in one another's way far behind in the message. The answers follow from how the sheets are made, or are Model's.
 */
public final class HardPlansTest {
    private HardPlansTest() {
    }

    public static void main(String[] args) {
        strayLetters();
        strayLettersThatAreMissing();
        pairsThatShareCells();
        dearestSheets();
        oneLetterEverywhere();
        randomSheets();
        Due.finish();
    }

    /** Forty places of a, none side by side, ahead of two strips that are backs of one another. */
    private static void strayLetters() {
        String row = "a-a-a-a- ";
        LetterCuts x = Due.with("page 8 6;front " + row.repeat(5) + "cd-c-d--;back " + row.repeat(5) + "e-f---ef;");
        // The back's e and f of the places 46 and 47 are behind the c and d of the places 41 and 40.
        Due.same("tell(aaaacdef)", Due.told(x, "aaaacdef"), 0);
        plan(x, "aaaacdef", new int[][] {
            {1, 0, 0}, {1, 0, 2}, {1, 0, 4}, {1, 0, 6}, {2, 0, 40}, {1, 1, 40}, {1, 1, 42}});
        Due.same("copies()", x.copies(), 1);
        for (String message : new String[] {"acadaeaf", "acdaefaa", "cdefaaaa", "aacdaefa"}) {
            Due.told(x, message);
            Due.same("fewest() of " + message, x.fewest(), message.equals("acadaeaf") ? 8 : 7);
        }
    }

    /** Letters, side and first place of each cut. */
    private static void plan(LetterCuts x, String message, int[][] want) {
        Due.same("fewest() of " + message, x.fewest(), want.length);
        for (int k = 0; k < want.length; k++) {
            for (int what = 0; what < 3; what++) {
                int asked = what;
                int cut = k;
                Due.due(message + ", cutOf(" + k + ", " + what + ")", () -> x.cutOf(cut, asked), want[k][what]);
            }
        }
    }

    private static void strayLettersThatAreMissing() {
        String row = "a-a-a-a- ";
        LetterCuts x = Due.with("page 8 6;front " + row.repeat(5) + "c-------;back " + row.repeat(5) + "-------d;");
        Due.same("tell(aaaaaacd)", Due.told(x, "aaaaaacd"), 1);
        Due.same("fewest() of aaaaaacd", x.fewest(), -1);
        Due.same("copies() of aaaaaacd", x.copies(), 0);
    }

    /** Rows of three letters: each has two strips on either side, but all four share the cell in the middle. */
    private static void pairsThatShareCells() {
        String row = "aaa--aaa ";
        LetterCuts x = Due.with("page 8 6;front " + row + "-------- ".repeat(5) + ";back " + row + "a-a-a-a- ".repeat(5)
                + ";");
        Due.told(x, "aaaaaaaa");
        Due.same("fewest() of two threes and stray letters", x.fewest(), 4);
        Due.told(x, "aaaa");
        Due.same("fewest() of aaaa", x.fewest(), 2);
        Due.same("cutOf(0, 0) of aaaa", x.cutOf(0, 0), 3);
        String pairs = "ab-ab-ab ";
        LetterCuts y = Due.with("page 8 6;front " + pairs.repeat(6) + ";back " + pairs.repeat(6) + ";");
        Due.told(y, "babababa");
        Due.same("fewest() of babababa", y.fewest(), 5);
        Due.told(y, "abababab");
        Due.same("fewest() of abababab", y.fewest(), 4);
        Due.told(y, "aabbaabb");
        Due.same("fewest() of aabbaabb", y.fewest(), 6);
        Due.told(y, "bbbbaaaa");
        Due.same("fewest() of bbbbaaaa", y.fewest(), 8);
    }

    /**
     * The dearest sheets that a search by small changes came to: fewer cuts seem to do until nearly all is tried. The
     * plans are those of Model.
     */
    private static void dearestSheets() {
        String ba = "babababa ";
        LetterCuts x = Due.with("page 8 6;front " + ba + "bcccabab " + ba.repeat(4) + ";back " + ba + "bababacc "
                + ba.repeat(4) + ";");
        Due.same("tell(cbaabbac)", Due.told(x, "cbaabbac"), 0);
        plan(x, "cbaabbac", new int[][] {{1, 1, 15}, {2, 0, 0}, {2, 0, 3}, {3, 1, 12}});
        Due.same("copies() of cbaabbac", x.copies(), 1);
        String ca = "cacacaca ";
        LetterCuts y = Due.with("page 8 6;front " + ca.repeat(5) + "cacacabc;back " + ca.repeat(5) + "-bbbcbaa;");
        Due.same("tell(bcaaccab)", Due.told(y, "bcaaccab"), 0);
        plan(y, "bcaaccab", new int[][] {{1, 1, 45}, {2, 0, 0}, {2, 0, 3}, {3, 0, 44}});
        Due.same("copies() of bcaaccab", y.copies(), 1);
    }

    private static void oneLetterEverywhere() {
        LetterCuts x = Due.with("page 8 6;front " + "aaaaaaaa ".repeat(6) + ";back " + "aaaaaaaa ".repeat(6) + ";");
        Due.told(x, "aaaaaaaa");
        Due.same("fewest() of a's", x.fewest(), 1);
        Due.same("copies() of a's", x.copies(), 6);
        Due.told(x, "aaaaaaab");
        Due.same("fewest() without a b", x.fewest(), -1);
        LetterCuts y = Due.with("page 1 6;front " + "a ".repeat(6) + ";back " + "a ".repeat(6) + ";");
        Due.told(y, "aaaaaa");
        Due.same("fewest() of a column", y.fewest(), 6);
        Due.told(y, "aaaaaaa");
        Due.same("fewest() of more a's than cells", y.fewest(), -1);
    }

    /** Only that they end, and that a plan is there just when nothing is missing. */
    private static void randomSheets() {
        Random random = new Random(7);
        for (int i = 0; i < 3000; i++) {
            int alphabet = 2 + random.nextInt(5);
            int blank = random.nextInt(4);
            StringBuilder text = new StringBuilder("page 8 6;");
            for (String side : new String[] {"front", "back"}) {
                text.append(side);
                for (int row = 0; row < 6; row++) {
                    text.append(' ');
                    for (int column = 0; column < 8; column++) {
                        text.append(random.nextInt(4) < blank ? '-' : (char) ('a' + random.nextInt(alphabet)));
                    }
                }
                text.append(';');
            }
            LetterCuts x = Due.with(text.toString());
            StringBuilder message = new StringBuilder();
            for (int k = 0; k < 8; k++) {
                message.append((char) ('a' + random.nextInt(alphabet)));
            }
            boolean missing = Due.told(x, message.toString()) > 0;
            Due.same("a plan for " + message + " on " + text, x.fewest() < 0, missing);
            x.copies();
        }
    }
}

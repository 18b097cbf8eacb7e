import java.util.concurrent.Callable;

/** Compares answers with those that are due, and counts. An exception is told as "throws." and its name. */
final class Due {
    private static int asked = 0;
    private static int wrong = 0;
    private static int mostTold = 40;

    private Due() {
    }

    static Object answer(Callable<?> call) {
        try {
            return plain(call.call());
        } catch (Exception e) {
            return "throws." + e.getClass().getSimpleName();
        }
    }

    static void due(String what, Callable<?> call, Object want) {
        same(what, answer(call), want);
    }

    static void same(String what, Object got, Object want) {
        asked++;
        if (!plain(got).equals(plain(want))) {
            wrong++;
            if (wrong <= mostTold) {
                System.out.println(what + " answered " + got + ", due is " + want);
            }
        }
    }

    /** Counts only: for tests that are meant to fail. */
    static void beQuiet() {
        mostTold = 0;
    }

    static int wrong() {
        return wrong;
    }

    static void finish() {
        System.out.println(asked + " answers asked, " + wrong + " not as due");
        if (wrong != 0 || asked == 0) {
            System.exit(1);
        }
    }

    /** Gives the object the bytes of a text, with spaces behind it as append takes 20 bytes. */
    static void feed(LetterCuts x, String text) {
        for (int start = 0; start < text.length(); start += 20) {
            int[] words = new int[5];
            for (int i = 0; i < 20; i++) {
                int sign = start + i < text.length() ? text.charAt(start + i) & 255 : ' ';
                words[i / 4] = words[i / 4] << 8 | sign;
            }
            x.append(words[0], words[1], words[2], words[3], words[4]);
        }
    }

    static int setup(LetterCuts x, String text) {
        feed(x, text);
        return x.load(text.length());
    }

    static LetterCuts with(String text) {
        LetterCuts x = new LetterCuts();
        if (setup(x, text) < 0) {
            same("setup " + text, x.errorOffset(), -1);
        }
        return x;
    }

    static int told(LetterCuts x, String message) {
        feed(x, message);
        return x.tell(message.length());
    }

    private static Object plain(Object value) {
        return value instanceof Integer i ? Long.valueOf(i) : value;
    }
}

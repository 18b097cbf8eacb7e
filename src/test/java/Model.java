import java.util.ArrayDeque;
import java.util.ArrayList;
import java.util.Arrays;
import java.util.Deque;
import java.util.HashMap;
import java.util.HashSet;
import java.util.List;
import java.util.Map;
import java.util.NoSuchElementException;
import java.util.Set;
import java.util.regex.Matcher;
import java.util.regex.Pattern;

/** What the document says, in the most naive way, to compare runs with: plans are searched cut by cut. */
final class Model {
    /** The data that undo brings back; never altered once it is on the stack. */
    private static final class Data implements Cloneable {
        int width = 1;
        int height = 1;
        int least = 1;
        String[] front = {"-"};
        String[] back = {"-"};
        int[] sizes = {1, 1};
        Set<Integer> gone = new HashSet<>();
        String message = "";
        int cuts = 0;
        int cutLetters = 0;

        Data copy() {
            try {
                Data d = (Data) clone();
                d.gone = new HashSet<>(gone);
                return d;
            } catch (CloneNotSupportedException e) {
                throw new AssertionError(e);
            }
        }
    }

    private record Strip(int side, int place, int length) {
    }

    /** Letters that so many cuts cannot take from the cells that are left. */
    private record DeadEnd(int from, int cuts, long gone) {
    }

    private static final Pattern TOKEN = Pattern.compile(" *([0-9]+|[a-z-]+|[^ ])");

    private final StringBuilder buffer = new StringBuilder();
    private Data d = new Data();
    private final Deque<Data> past = new ArrayDeque<>();
    /** The plans found since the latest change, by the cells that are gone. */
    private final Map<Set<Integer>, List<Strip>> plans = new HashMap<>();
    private int errorOffset = -1;

    // ---- the buffer and the setup text

    int append(int w0, int w1, int w2, int w3, int w4) {
        if (buffer.length() > 380) {
            return -1;
        }
        for (int w : new int[] {w0, w1, w2, w3, w4}) {
            buffer.append((char) (w >>> 24)).append((char) (w >>> 16 & 255));
            buffer.append((char) (w >>> 8 & 255)).append((char) (w & 255));
        }
        return buffer.length();
    }

    int load(int length) {
        if (length < 0 || length > buffer.length()) {
            throw new IllegalArgumentException();
        }
        String text = buffer.substring(0, length);
        buffer.setLength(0);
        int[] error = new int[2];
        Data read = parse(text, error);
        if (read == null) {
            errorOffset = error[1];
            return error[0];
        }
        errorOffset = -1;
        change();
        d = read;
        return d.width * d.height;
    }

    private static Data parse(String text, int[] error) {
        Data data = new Data();
        int[] at = {0};
        if (!word(text, at, error).equals("page")) {
            return null;
        }
        data.width = number(text, at, error, 8);
        if (data.width == 0) {
            return null;
        }
        data.height = number(text, at, error, 6);
        if (data.height == 0 || !semicolon(text, at, error)) {
            return null;
        }
        data.front = new String[data.height];
        Arrays.fill(data.front, "-".repeat(data.width));
        data.back = data.front.clone();
        data.sizes = new int[2 * data.height];
        Arrays.fill(data.sizes, 1);
        Set<String> seen = new HashSet<>(Set.of("page"));
        while (skip(text, at[0]) < text.length()) {
            int start = skip(text, at[0]);
            String word = word(text, at, error);
            if (word.isEmpty()) {
                return null;
            }
            if (!seen.add(word)) {
                error[0] = -2;
                error[1] = start;
                return null;
            }
            boolean good = switch (word) {
                case "front" -> lines(text, at, error, data.front, data.width);
                case "back" -> lines(text, at, error, data.back, data.width);
                case "sizes" -> numbers(text, at, error, data.sizes);
                default -> (data.least = number(text, at, error, 9)) != 0;
            };
            if (!good || !semicolon(text, at, error)) {
                return null;
            }
        }
        return data;
    }

    private static int skip(String text, int at) {
        int i = at;
        while (i < text.length() && text.charAt(i) == ' ') {
            i++;
        }
        return i;
    }

    /** The next token, or "" at the end. */
    private static String token(String text, int[] at) {
        Matcher m = TOKEN.matcher(text).region(at[0], text.length());
        return m.lookingAt() ? m.group(1) : "";
    }

    private static String refuse(String text, int[] at, int[] error, int code) {
        error[0] = code;
        error[1] = skip(text, at[0]);
        return "";
    }

    private static String word(String text, int[] at, int[] error) {
        String token = token(text, at).replaceAll("-.*", "");
        if (!Set.of("page", "front", "back", "sizes", "least").contains(token)) {
            return refuse(text, at, error, -2);
        }
        if (token.equals("page") != (skip(text, 0) == skip(text, at[0]))) {
            return refuse(text, at, error, -2);
        }
        at[0] = skip(text, at[0]) + token.length();
        return token;
    }

    private static int number(String text, int[] at, int[] error, int most) {
        String token = token(text, at);
        if (!token.matches("[0-9]+")) {
            refuse(text, at, error, -2);
            return 0;
        }
        String digits = token.replaceAll("^0+", "");
        if (digits.length() != 1 || digits.charAt(0) - '0' > most) {
            refuse(text, at, error, -3);
            return 0;
        }
        at[0] = skip(text, at[0]) + token.length();
        return digits.charAt(0) - '0';
    }

    private static boolean numbers(String text, int[] at, int[] error, int[] into) {
        for (int i = 0; i < into.length; i++) {
            into[i] = number(text, at, error, 9);
            if (into[i] == 0) {
                return false;
            }
        }
        return true;
    }

    private static boolean lines(String text, int[] at, int[] error, String[] into, int width) {
        for (int i = 0; i < into.length; i++) {
            String token = token(text, at);
            if (!token.matches("[a-z-]+") || token.length() != width) {
                refuse(text, at, error, token.matches("[a-z-]+") ? -4 : -2);
                return false;
            }
            into[i] = token;
            at[0] = skip(text, at[0]) + width;
        }
        return true;
    }

    private static boolean semicolon(String text, int[] at, int[] error) {
        if (!token(text, at).equals(";")) {
            refuse(text, at, error, -2);
            return false;
        }
        at[0] = skip(text, at[0]) + 1;
        return true;
    }

    int errorOffset() {
        return errorOffset;
    }

    // ---- the sheet

    private int cells() {
        return d.width * d.height;
    }

    private int cell(int side, int place) {
        int row = place / d.width;
        int column = place % d.width;
        return row * d.width + (side == 0 ? column : d.width - 1 - column);
    }

    private int size(int side, int place) {
        return d.sizes[side * d.height + place / d.width];
    }

    private char sign(int side, int place) {
        return (side == 0 ? d.front : d.back)[place / d.width].charAt(place % d.width);
    }

    private boolean usable(int side, int place, Set<Integer> gone) {
        return sign(side, place) != '-' && size(side, place) >= d.least && !gone.contains(cell(side, place));
    }

    private void check(int side, int place) {
        if (side < 0 || side > 1 || place < 0 || place >= cells()) {
            throw new IndexOutOfBoundsException();
        }
    }

    private int inMessage(char sign) {
        return (int) d.message.chars().filter(c -> c == sign).count();
    }

    int state(int what) {
        int usable = 0;
        for (int side = 0; side < 2; side++) {
            for (int place = 0; place < cells(); place++) {
                usable += usable(side, place, d.gone) ? 1 : 0;
            }
        }
        int[] all = {d.width, d.height, d.least, cells() - d.gone.size(), d.message.length(), d.cuts, d.cutLetters,
            usable};
        if (what < 0 || what >= all.length) {
            throw new IllegalArgumentException();
        }
        return all[what];
    }

    int letter(int side, int place) {
        check(side, place);
        return d.gone.contains(cell(side, place)) ? -2 : sign(side, place) == '-' ? -1 : sign(side, place) - 'a';
    }

    int place(int side, int place, int what) {
        check(side, place);
        int behind = place / d.width * d.width + d.width - 1 - place % d.width;
        int[] all = {cell(side, place), size(side, place), behind, usable(side, place, d.gone) ? 1 : 0,
            inMessage(sign(side, place))};
        if (what < 0 || what >= all.length) {
            throw new IllegalArgumentException();
        }
        return all[what];
    }

    int stock(int letter, int what) {
        if (letter < 0 || letter > 25 || what < 0 || what > 2) {
            throw new IllegalArgumentException();
        }
        char sign = (char) ('a' + letter);
        int places = 0;
        for (int side = 0; side < 2; side++) {
            for (int place = 0; place < cells(); place++) {
                places += sign(side, place) == sign && usable(side, place, d.gone) ? 1 : 0;
            }
        }
        return what == 0 ? places : what == 1 ? cellsOf(Set.of(sign)).size() : inMessage(sign);
    }

    private Set<Integer> cellsOf(Set<Character> signs) {
        Set<Integer> found = new HashSet<>();
        for (int side = 0; side < 2; side++) {
            for (int place = 0; place < cells(); place++) {
                if (signs.contains(sign(side, place)) && usable(side, place, d.gone)) {
                    found.add(cell(side, place));
                }
            }
        }
        return found;
    }

    int message(int k) {
        if (k < 0 || k >= d.message.length()) {
            throw new NoSuchElementException();
        }
        return d.message.charAt(k) - 'a';
    }

    /** By Hall's theorem: the most that any set of letters wants beyond its cells. */
    int missing() {
        List<Character> kinds = new ArrayList<>();
        d.message.chars().distinct().forEach(c -> kinds.add((char) c));
        int most = 0;
        for (int set = 0; set < 1 << kinds.size(); set++) {
            Set<Character> signs = new HashSet<>();
            int wanted = 0;
            for (int i = 0; i < kinds.size(); i++) {
                if ((set >> i & 1) != 0) {
                    signs.add(kinds.get(i));
                    wanted += inMessage(kinds.get(i));
                }
            }
            most = Math.max(most, wanted - cellsOf(signs).size());
        }
        return most;
    }

    // ---- plans

    private Set<Integer> cellsOf(Strip strip) {
        Set<Integer> cells = new HashSet<>();
        for (int i = 0; i < strip.length; i++) {
            cells.add(cell(strip.side, strip.place + i));
        }
        return cells;
    }

    private boolean isStrip(int side, int place, int length, Set<Integer> gone) {
        if (place % d.width + length > d.width) {
            return false;
        }
        for (int i = 0; i < length; i++) {
            if (!usable(side, place + i, gone)) {
                return false;
            }
        }
        return true;
    }

    private boolean fits(Strip strip, int from, Set<Integer> gone) {
        if (from + strip.length > d.message.length() || !isStrip(strip.side, strip.place, strip.length, gone)) {
            return false;
        }
        for (int i = 0; i < strip.length; i++) {
            if (sign(strip.side, strip.place + i) != d.message.charAt(from + i)) {
                return false;
            }
        }
        return true;
    }

    /** The best plan, or null. */
    private List<Strip> plan(Set<Integer> gone) {
        if (d.message.length() > 8) {
            return null;
        }
        if (!plans.containsKey(gone)) {
            plans.put(new HashSet<>(gone), findPlan(gone));
        }
        return plans.get(gone);
    }

    private List<Strip> findPlan(Set<Integer> gone) {
        Set<DeadEnd> dead = new HashSet<>();
        for (int cuts = 0; cuts <= d.message.length(); cuts++) {
            List<Strip> found = plan(0, cuts, gone, dead);
            if (found != null) {
                return found;
            }
        }
        return null;
    }

    private List<Strip> plan(int from, int cuts, Set<Integer> gone, Set<DeadEnd> dead) {
        if (from == d.message.length()) {
            return cuts == 0 ? new ArrayList<>() : null;
        }
        DeadEnd here = new DeadEnd(from, cuts, gone.stream().mapToLong(cell -> 1L << cell).sum());
        if (cuts == 0 || dead.contains(here)) {
            return null;
        }
        for (int length = d.message.length() - from; length > 0; length--) {
            for (int side = 0; side < 2; side++) {
                for (int place = 0; place < cells(); place++) {
                    Strip strip = new Strip(side, place, length);
                    if (!fits(strip, from, gone)) {
                        continue;
                    }
                    Set<Integer> then = new HashSet<>(gone);
                    then.addAll(cellsOf(strip));
                    List<Strip> rest = plan(from + length, cuts - 1, then, dead);
                    if (rest != null) {
                        rest.add(0, strip);
                        return rest;
                    }
                }
            }
        }
        dead.add(here);
        return null;
    }

    int fewest() {
        List<Strip> plan = plan(d.gone);
        return d.message.length() > 8 ? -2 : plan == null ? -1 : plan.size();
    }

    int cutOf(int k, int what) {
        List<Strip> plan = plan(d.gone);
        if (plan == null || k < 0 || k >= plan.size()) {
            throw new NoSuchElementException();
        }
        Strip s = plan.get(k);
        int[] all = {s.length, s.side, s.place, s.length * size(s.side, s.place)};
        if (what < 0 || what >= all.length) {
            throw new IllegalArgumentException();
        }
        return all[what];
    }

    private List<Integer> sizesOf(List<Strip> plan) {
        List<Integer> sizes = new ArrayList<>();
        for (Strip s : plan) {
            for (int i = 0; i < s.length; i++) {
                sizes.add(size(s.side, s.place + i));
            }
        }
        return sizes;
    }

    int unevenness() {
        List<Strip> plan = plan(d.gone);
        if (plan == null) {
            return -1;
        }
        List<Integer> sizes = sizesOf(plan);
        int sum = 0;
        for (int i = 1; i < sizes.size(); i++) {
            sum += Math.abs(sizes.get(i) - sizes.get(i - 1));
        }
        return sum;
    }

    double meanSize() {
        List<Strip> plan = plan(d.gone);
        if (plan == null || plan.isEmpty()) {
            return 0.0;
        }
        return (double) sizesOf(plan).stream().mapToInt(i -> i).sum() / (double) d.message.length();
    }

    int copies() {
        Set<Integer> gone = new HashSet<>(d.gone);
        int times = 0;
        for (List<Strip> plan = plan(gone); plan != null && !plan.isEmpty(); plan = plan(gone)) {
            times++;
            for (Strip s : plan) {
                gone.addAll(cellsOf(s));
            }
        }
        return times;
    }

    int longest(int from) {
        message(from);
        for (int length = 8; length > 0; length--) {
            for (int side = 0; side < 2; side++) {
                for (int place = 0; place < cells(); place++) {
                    if (fits(new Strip(side, place, length), from, d.gone)) {
                        return length;
                    }
                }
            }
        }
        return 0;
    }

    int clashes() {
        int count = 0;
        for (int cell = 0; cell < cells(); cell++) {
            boolean both = true;
            for (int side = 0; side < 2; side++) {
                int place = cell(side, cell);
                both &= usable(side, place, d.gone) && inMessage(sign(side, place)) > 0;
            }
            count += both ? 1 : 0;
        }
        return count;
    }

    // ---- changes

    private void change() {
        plans.clear();
        past.addLast(d.copy());
        if (past.size() > 8) {
            past.removeFirst();
        }
    }

    int tell(int length) {
        if (length < 1 || length > 24 || length > buffer.length() || !buffer.substring(0, length).matches("[a-z]+")) {
            throw new IllegalArgumentException();
        }
        change();
        d.message = buffer.substring(0, length);
        buffer.setLength(0);
        return missing();
    }

    int cut() {
        List<Strip> plan = plan(d.gone);
        if (plan == null || plan.isEmpty()) {
            throw new IllegalStateException();
        }
        change();
        for (Strip s : plan) {
            d.gone.addAll(cellsOf(s));
            d.cuts++;
            d.cutLetters += s.length;
        }
        return plan.size();
    }

    int snip(int side, int place, int letters) {
        check(side, place);
        if (letters < 1 || letters > 8) {
            throw new IllegalArgumentException();
        }
        if (!isStrip(side, place, letters, d.gone)) {
            throw new IllegalStateException();
        }
        change();
        d.gone.addAll(cellsOf(new Strip(side, place, letters)));
        d.cuts++;
        d.cutLetters += letters;
        return state(3);
    }

    int least(int size) {
        if (size < 1 || size > 9) {
            throw new IllegalArgumentException();
        }
        change();
        int previous = d.least;
        d.least = size;
        return previous;
    }

    int mend(int cell) {
        check(0, cell);
        if (!d.gone.contains(cell)) {
            throw new IllegalStateException();
        }
        change();
        d.gone.remove(cell);
        return state(3);
    }

    int undo() {
        if (past.isEmpty()) {
            return -1;
        }
        plans.clear();
        d = past.removeLast();
        return past.size();
    }

    long checksum() {
        List<Integer> numbers = new ArrayList<>();
        for (int what = 0; what < 8; what++) {
            numbers.add(state(what));
        }
        for (int side = 0; side < 2; side++) {
            for (int place = 0; place < cells(); place++) {
                numbers.add(letter(side, place));
                numbers.add(size(side, place));
            }
        }
        d.message.chars().forEach(c -> numbers.add(c - 'a'));
        numbers.addAll(List.of(missing(), fewest(), clashes()));
        long sum = 0;
        for (int n : numbers) {
            sum = sum * 31 + n;
        }
        return sum;
    }
}

import java.lang.reflect.Constructor;
import java.lang.reflect.Field;
import java.lang.reflect.Method;
import java.lang.reflect.Modifier;
import java.util.Set;
import java.util.TreeSet;

/** The class has the document's face, and no other member that can be seen. */
public final class FaceTest {
    private static final String[] METHODS = {
        "int append(int,int,int,int,int)",
        "int load(int) IllegalArgumentException",
        "int errorOffset()",
        "int state(int) IllegalArgumentException",
        "int letter(int,int) IndexOutOfBoundsException",
        "int place(int,int,int) IndexOutOfBoundsException IllegalArgumentException",
        "int stock(int,int) IllegalArgumentException",
        "int message(int) NoSuchElementException",
        "int missing()",
        "int fewest()",
        "int cutOf(int,int) NoSuchElementException IllegalArgumentException",
        "int unevenness()",
        "int copies()",
        "int longest(int) NoSuchElementException",
        "int clashes()",
        "double meanSize()",
        "int tell(int) IllegalArgumentException",
        "int cut() IllegalStateException",
        "int snip(int,int,int) IndexOutOfBoundsException IllegalArgumentException IllegalStateException",
        "int least(int) IllegalArgumentException",
        "int mend(int) IndexOutOfBoundsException IllegalStateException",
        "int undo()",
        "long checksum()",
    };

    private FaceTest() {
    }

    public static void main(String[] args) {
        Due.same("modifiers", Modifier.toString(LetterCuts.class.getModifiers()), "public final");
        Due.same("methods", seenMethods(), new TreeSet<>(Set.of(METHODS)));
        Due.same("fields", seenFields(), new TreeSet<>(Set.of("OUT_OF_RANGE=-3", "SYNTAX_ERROR=-2", "WRONG_WIDTH=-4")));
        Constructor<?>[] constructors = LetterCuts.class.getDeclaredConstructors();
        Due.same("constructors", constructors.length, 1);
        Due.same("constructor", constructors[0].toString(), "public LetterCuts()");
        checkInside();
        Due.finish();
    }

    private static Set<String> seenMethods() {
        Set<String> seen = new TreeSet<>();
        for (Method m : LetterCuts.class.getDeclaredMethods()) {
            if (Modifier.isPrivate(m.getModifiers())) {
                continue;
            }
            StringBuilder text = new StringBuilder(m.getReturnType() + " " + m.getName() + "(");
            for (Class<?> type : m.getParameterTypes()) {
                text.append(text.charAt(text.length() - 1) == '(' ? "" : ",").append(type);
            }
            text.append(')');
            for (Class<?> type : m.getExceptionTypes()) {
                text.append(' ').append(type.getSimpleName());
            }
            Due.same(m.getName() + " is public and no more", Modifier.toString(m.getModifiers()), "public");
            seen.add(text.toString());
        }
        return seen;
    }

    private static Set<String> seenFields() {
        Set<String> seen = new TreeSet<>();
        for (Field f : LetterCuts.class.getDeclaredFields()) {
            if (!Modifier.isPrivate(f.getModifiers())) {
                Due.same(f.getName() + " is a constant", Modifier.toString(f.getModifiers()), "public static final");
                try {
                    seen.add(f.getName() + "=" + f.getInt(null));
                } catch (IllegalAccessException e) {
                    seen.add(f.getName() + " cannot be read");
                }
            }
        }
        return seen;
    }

    private static void checkInside() {
        Set<String> faceNames = new TreeSet<>();
        for (String method : METHODS) {
            faceNames.add(method.substring(method.indexOf(' ') + 1, method.indexOf('(')));
        }
        for (Method m : LetterCuts.class.getDeclaredMethods()) {
            if (Modifier.isPrivate(m.getModifiers())) {
                Due.same("a private method is named " + m.getName(), faceNames.contains(m.getName()), false);
            }
        }
        for (Class<?> inner : LetterCuts.class.getDeclaredClasses()) {
            Due.same(inner.getName() + " is static", Modifier.isStatic(inner.getModifiers()), true);
            Due.same(inner.getName() + " is hidden", Modifier.isPublic(inner.getModifiers()), false);
            Due.same(inner.getName() + " has few fields", inner.getDeclaredFields().length <= 20, true);
            for (Method m : inner.getDeclaredMethods()) {
                Due.same(inner.getName() + " names a method " + m.getName(), faceNames.contains(m.getName()), false);
            }
        }
    }
}

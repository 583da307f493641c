import java.io.IOException;
import java.lang.reflect.Constructor;
import java.lang.reflect.Field;
import java.lang.reflect.Method;
import java.lang.reflect.Modifier;
import java.nio.file.Files;
import java.nio.file.Path;
import java.util.Arrays;
import java.util.Set;
import java.util.TreeSet;
import java.util.regex.Matcher;
import java.util.regex.Pattern;

/** The rules of LANGUAGE.md that a program can see, and that no call throws. Runs in the project's folder. */
public final class RulesTest {
    private static final Due due = new Due("RulesTest");
    private static final String[] FACE = {
        "int counter()", "int one(int,int,int)", "int type(int)", "int clear()", "int read()", "int lend(int,int)",
        "int leave(int)", "int evening(int)", "int undo()", "int of(int,int)", "int about(int,int)",
        "int fit(int,int)", "int best(int)", "int dumb()", "int own()", "int ring(int)", "int swaps(int)",
        "int steps()", "int worst(int)", "int slips(int,int)", "int note(int,int,int,int,int)", "int forget()",
        "int is(int)", "int listen(int)", "int whose(int)", "int asks(int,int,int)", "int thieves(int,int)",
        "int lents(int,int)", "long part(int)", "int image(int)", "int from(int)", "int status(int)",
        "int count(int)", "long digest()"};

    public static void main(String[] args) throws IOException {
        face();
        insides();
        source();
        extremes();
        due.end();
    }

    private static void face() {
        Class<?> c = BorrowedVoice.class;
        due.is("the class is public and final", c.getModifiers(), Modifier.PUBLIC | Modifier.FINAL);
        Set<String> there = new TreeSet<>();
        for (Method m : c.getDeclaredMethods()) {
            if (Modifier.isPublic(m.getModifiers())) {
                there.add(m.getReturnType() + " " + m.getName()
                        + Arrays.toString(m.getParameterTypes()).replace(" ", "").replace('[', '(').replace(']', ')'));
            } else {
                due.holds(m.getName() + " is private", Modifier.isPrivate(m.getModifiers()));
            }
        }
        due.holds("the public methods are " + there, there.equals(new TreeSet<>(Arrays.asList(FACE))));
        for (Constructor<?> k : c.getDeclaredConstructors()) {
            due.holds("one constructor", k.getParameterCount() == 0 && Modifier.isPublic(k.getModifiers()));
        }
        Set<String> constants = new TreeSet<>();
        for (Field f : c.getDeclaredFields()) {
            if (Modifier.isPublic(f.getModifiers())) {
                constants.add(f.getName());
            } else {
                due.holds(f.getName() + " is private", Modifier.isPrivate(f.getModifiers()));
            }
        }
        due.holds("the constants are " + constants, constants.equals(Set.of("NONE", "BAD", "NO", "FULL")));
    }

    private static void insides() {
        Set<String> names = new TreeSet<>();
        for (String f : FACE) {
            names.add(f.substring(f.indexOf(' ') + 1, f.indexOf('(')));
        }
        Class<?>[] inside = BorrowedVoice.class.getDeclaredClasses();
        due.holds("twelve classes at most", inside.length + 1 <= 12);
        check(BorrowedVoice.class, names);
        for (Class<?> c : inside) {
            due.holds(c + " is static", Modifier.isStatic(c.getModifiers()));
            check(c, names);
        }
    }

    private static void check(Class<?> c, Set<String> names) {
        int fields = 0;
        for (Field f : c.getDeclaredFields()) {
            boolean isStatic = Modifier.isStatic(f.getModifiers());
            due.holds(f + " is final if static", !isStatic || Modifier.isFinal(f.getModifiers()));
            fields += isStatic ? 0 : 1;
        }
        due.holds(c + " has twenty fields at most", fields <= 20);
        for (Method m : c.getDeclaredMethods()) {
            due.holds(m + " takes seven at most", m.getParameterCount() <= 7);
            due.holds(m + " has a name of its own",
                    c == BorrowedVoice.class && Modifier.isPublic(m.getModifiers()) || !names.contains(m.getName()));
        }
    }

    private static void source() throws IOException {
        String text = Files.readString(Path.of("src/main/java/BorrowedVoice.java"));
        due.holds("signs 1 to 127 alone", text.chars().allMatch(ch -> ch >= 1 && ch <= 127));
        String code = text.replaceAll("(?s)/\\*.*?\\*/", "").replaceAll("//[^\n]*", "");
        String[] never = {"throw", "throws", "try", "catch", "synchronized", "assert", "import", "package", "lambda",
            "double", "float", "equals", "hashCode", "toString", "native", "volatile", "var"};
        for (String word : never) {
            due.holds("no " + word, !Pattern.compile("\\b" + word + "\\b").matcher(code).find());
        }
        due.holds("no lambda, no method reference", !code.contains("->") && !code.contains("::"));
        due.holds("no loop without an end", !code.contains("while (true)") && !code.contains("for (;;)"));
        Matcher library = Pattern.compile("\\b(Math|Integer|Long|System|Arrays|String)\\.(\\w+)").matcher(code);
        Set<String> allowed = Set.of("Math.max", "Math.min", "Math.abs", "Integer.bitCount", "System.arraycopy");
        while (library.find()) {
            due.holds("the library's " + library.group(), allowed.contains(library.group()));
        }
        methodsAreShort(text.split("\n"));
    }

    /** A method ends where a brace stands as far in as its head: the file is laid out so. */
    private static void methodsAreShort(String[] lines) {
        Pattern head = Pattern.compile("( {4}| {8})(public |private |static |final )*\\w+(\\[\\])? ?\\w*\\([^;]*\\) \\{");
        for (int i = 0; i < lines.length; i++) {
            Matcher m = head.matcher(lines[i]);
            if (m.matches()) {
                int end = i;
                while (end < lines.length && !lines[end].equals(m.group(1) + "}")) {
                    end++;
                }
                due.holds("sixty lines at most: " + lines[i], end - i < 60);
            }
        }
    }

    /** Every call with every pair of extremes, in several states, far beyond 512 calls: nothing is thrown. */
    private static void extremes() {
        int[] far = {Integer.MIN_VALUE, -11, -2, -1, 0, 1, 5, 6, 7, 59, 61, 150, 1000, 999999, Integer.MAX_VALUE};
        for (int people = 0; people <= 6; people++) {
            BorrowedVoice x = new BorrowedVoice();
            for (int i = 0; i < people; i++) {
                x.one(i, i, 9 - i);
            }
            for (String row : Caller.NAMES) {
                String[] name = row.split(" ");
                int[] a = new int[Integer.parseInt(name[1])];
                for (int i = 0; i < far.length * far.length; i++) {
                    for (int k = 0; k < a.length; k++) {
                        a[k] = far[k % 2 == 0 ? i % far.length : i / far.length];
                    }
                    if (!name[0].equals("counter")) {
                        Caller.call(x, name[0], a);
                    }
                }
            }
            due.is("people are still there", x.count(0) >= 0 ? 1 : 0, 1);
        }
    }
}

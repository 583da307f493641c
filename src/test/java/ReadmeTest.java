import java.io.IOException;
import java.nio.file.Files;
import java.nio.file.Path;
import java.util.Arrays;
import java.util.HashMap;
import java.util.Map;
import java.util.Set;
import java.util.TreeSet;
import java.util.regex.Matcher;
import java.util.regex.Pattern;

/** README.md tells the truth: its example, the calls it names, its table of refusals. Runs in the project's folder. */
public final class ReadmeTest {
    /** A line of the example: a name for the answer (or none), the call, what it is called with, the answer. */
    private static final Pattern LINE = Pattern.compile("(?:int (\\w+) = )?x\\.(\\w+)\\((.*)\\); *// (-?\\d+): .*");
    private static final long BY_TEN = -10;
    private static final Due due = new Due("ReadmeTest");

    public static void main(String[] args) throws IOException {
        String page = Files.readString(Path.of("README.md"));
        example(page);
        everyCallIsNamed(page);
        refusals(page);
        due.holds("the one command is told", page.contains("\n    .ci/run\n"));
        due.end();
    }

    private static void example(String page) {
        int begin = page.indexOf("```java\n") + 8;
        String[] lines = page.substring(begin, page.indexOf("```", begin)).split("\n");
        due.holds("the object is made", lines[0].equals("BorrowedVoice x = new BorrowedVoice();"));
        due.holds("there is an example", lines.length > 5);
        BorrowedVoice x = new BorrowedVoice();
        Map<String, Integer> names = new HashMap<>();
        for (int i = 1; i < lines.length; i++) {
            Matcher m = LINE.matcher(lines[i]);
            due.holds("a line with its answer: " + lines[i], m.matches());
            if (m.matches()) {
                long got = Caller.call(x, m.group(2), numbers(m.group(3), names));
                due.is(lines[i], got, Long.parseLong(m.group(4)));
                if (m.group(1) != null) {
                    names.put(m.group(1), (int) got);
                }
            }
        }
    }

    private static int[] numbers(String list, Map<String, Integer> names) {
        if (list.isEmpty()) {
            return new int[0];
        }
        String[] words = list.split(", ");
        int[] a = new int[words.length];
        for (int i = 0; i < a.length; i++) {
            Integer named = names.get(words[i]);
            a[i] = named != null ? named : Integer.parseInt(words[i]);
        }
        return a;
    }

    private static void everyCallIsNamed(String page) {
        for (String row : Caller.NAMES) {
            String[] name = row.split(" ");
            Matcher m = Pattern.compile("`" + name[0] + "\\(([^)]*)\\)`").matcher(page);
            boolean found = m.find();
            due.holds(name[0] + " is named", found);
            if (found) {
                int numbers = m.group(1).isEmpty() ? 0 : m.group(1).split(", ").length;
                due.is("how many numbers " + name[0] + " takes", numbers, Integer.parseInt(name[1]));
            }
        }
    }

    /** Each call with numbers far off, and in states where it can't be: the table names just those that answer so. */
    private static void refusals(String page) {
        Map<Long, Set<String>> callsBy = new HashMap<>();
        for (long answer : new long[] {BY_TEN, BorrowedVoice.NO, BorrowedVoice.FULL}) {
            callsBy.put(answer, new TreeSet<>());
        }
        String[] states = {"", Script.NOBODY, Script.RICH, Script.SIX + ", " + Script.times(6, "note 0 0 0 0 0"),
            Script.times(150, "type 32")};
        for (String state : states) {
            for (String row : Caller.NAMES) {
                for (int number : new int[] {-99, 0, 1}) {
                    sortIn(callsBy, state, row.split(" "), number);
                }
            }
        }
        rowIs(page, "| -10 |", callsBy.get(BY_TEN));
        rowIs(page, "| `NO`, -3 |", callsBy.get((long) BorrowedVoice.NO));
        rowIs(page, "| `FULL`, -4 |", callsBy.get((long) BorrowedVoice.FULL));
    }

    private static void sortIn(Map<Long, Set<String>> callsBy, String state, String[] name, int number) {
        int[] a = new int[Integer.parseInt(name[1])];
        Arrays.fill(a, number);
        if (name[0].equals("asks")) {
            // two alike are BAD, whatever else
            a[1] = 1 - number;
        }
        long got = Caller.call(Script.after(state), name[0], a);
        // read answers -10 for a fault at the place 0, which is no refusal
        if (callsBy.containsKey(got) && !name[0].equals("read")) {
            callsBy.get(got).add(name[0]);
        }
    }

    private static void rowIs(String page, String row, Set<String> calls) {
        due.holds("the row " + row + " names " + calls, calls.equals(named(page, row)));
    }

    /** The calls that the table's row names in its second column. */
    private static Set<String> named(String page, String row) {
        Set<String> names = new TreeSet<>();
        int begin = page.indexOf(row);
        if (begin >= 0) {
            begin += row.length();
            Matcher m = Pattern.compile("`(\\w+)`").matcher(page.substring(begin, page.indexOf('|', begin)));
            while (m.find()) {
                names.add(m.group(1));
            }
        }
        return names;
    }
}

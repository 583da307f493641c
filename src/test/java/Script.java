import java.util.ArrayList;
import java.util.Arrays;
import java.util.Collections;
import java.util.List;

/**
 * Runs of calls told by a text, as "one 0 5 5 = 0, leave 0, count 2 = 1": behind = stands the answer
 * that is due. Two objects that the same run was done with tell whether one more call changed anything.
 */
final class Script {
    /** 0 and 3 are dumb, 1 has voice 0, 2 has voice 1; voices 2 and 3 lie there; nothing is as at first. */
    static final String RICH = "one 0 5 5, one 1 7 2, one 2 3 9, one 3 6 6, leave 0, leave 1, lend 0 1, lend 1 2, "
            + "evening 3, image 0, note 0 1 1 5 1, note 2 0 0 5 2, leave 3, evening 2, image 1, thieves 1 3, undo, "
            + "evening 4, " + typed("counter;one 0 1 2;leave 0;");
    /** All six are there; 0 is dumb, 1 has voice 0, voice 1 lies there. */
    static final String SIX = "one 0 5 5, one 1 7 2, one 2 3 9, one 3 6 6, one 4 9 0, one 5 0 4, leave 0, lend 0 1, "
            + "evening 2, note 0 1 1 5 1, image 0, thieves 1 3, evening 1, " + typed("counter;one 1 1 1;");
    /** Nobody is there, but there was somebody. */
    static final String NOBODY = "one 5 9 9, one 2 1 1, leave 0, lend 0 1, evening 1, note 0 0 0 0 0, thieves 1 3, "
            + "image 0, counter, image 1, evening 2, " + typed("counter;one 1 1 1;");

    /** What an object answers behind so many calls is free, so no run may be as long. */
    private static final int MOST_CALLS = 512;
    private static final int CALLS_TO_SEE_ALL = 100;

    private Script() {
    }

    /** The calls that type a text. */
    static String typed(String text) {
        List<String> calls = new ArrayList<>();
        for (int i = 0; i < text.length(); i++) {
            calls.add("type " + (int) text.charAt(i));
        }
        return String.join(", ", calls);
    }

    static String times(int n, String calls) {
        return String.join(", ", Collections.nCopies(n, calls));
    }

    static BorrowedVoice after(String run) {
        return run(null, "", run);
    }

    /** Does a run with a new object; a sentence of the document says why the answers are due. */
    static BorrowedVoice run(Due due, String sentence, String... parts) {
        BorrowedVoice x = new BorrowedVoice();
        String done = "";
        String[] calls = String.join(", ", parts).split(" *,[ ,]*");
        if (calls.length + CALLS_TO_SEE_ALL > MOST_CALLS) {
            throw new IllegalArgumentException("too many calls: " + calls.length);
        }
        for (String call : calls) {
            String[] sides = call.split(" = ");
            if (sides[0].isEmpty()) {
                continue;
            }
            long got = does(x, sides[0]);
            done += sides[0] + ", ";
            if (due != null && sides.length == 2) {
                due.is(sentence + " .. " + done, got, Long.parseLong(sides[1]));
            }
        }
        return x;
    }

    static long does(BorrowedVoice x, String call) {
        String[] words = call.split(" ");
        int[] a = new int[words.length - 1];
        for (int i = 0; i < a.length; i++) {
            a[i] = Integer.parseInt(words[i + 1]);
        }
        return Caller.call(x, words[0], a);
    }

    /** A call that is refused: its answer; the one STATUS (NONE: no refusal) is 1 more; all else stays. */
    static void stays(Due due, String sentence, String run, String call, long answer, int status) {
        BorrowedVoice x = after(run);
        String what = sentence + " .. " + call + " behind " + run;
        due.is(what, does(x, call), answer);
        sameBut(due, what, x, after(run), status);
    }

    /** All that can be seen of both is alike, but for the one STATUS, which x has 1 more of. Uses both up. */
    static void sameBut(Due due, String what, BorrowedVoice x, BorrowedVoice twin, int status) {
        for (int i = 0; i < 3; i++) {
            due.is(what + ": status(" + i + ")", x.status(i), twin.status(i) + (i == status ? 1 : 0));
        }
        due.holds(what + ": all else stays", Arrays.equals(seen(x), seen(twin)));
    }

    /** All but STATUS: what stands now, what may be undone, the text's bytes, the images with what they keep. */
    private static long[] seen(BorrowedVoice x) {
        List<Long> row = new ArrayList<>();
        for (int what = 0; what <= 6; what++) {
            row.add((long) x.count(what));
        }
        for (int i = 0; i < 6; i++) {
            row.add((long) x.of(i, 2));
            row.add((long) x.about(i, 5));
            row.add((long) x.is(i));
        }
        undoAll(x, row);
        row.add((long) x.read());
        row.add(x.digest());
        for (int i = 0; i < 2; i++) {
            row.add((long) x.from(i));
            undoAll(x, row);
        }
        return row.stream().mapToLong(Long::longValue).toArray();
    }

    private static void undoAll(BorrowedVoice x, List<Long> row) {
        row.add(x.digest());
        for (int i = 0; i < 9; i++) {
            row.add((long) x.undo());
            row.add(x.digest());
        }
    }
}

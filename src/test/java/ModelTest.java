import java.util.Arrays;
import java.util.Random;

/** Made-up runs of 512 calls: the class and the model must answer alike. */
public final class ModelTest {
    private static final int RUNS = 3000;
    private static final int CALLS = 512;
    private static final int[] EXTREMES = {
        Integer.MIN_VALUE, -1000001, -129, -11, -10, -5, -4, -3, -2, -1, 0, 1, 2, 3, 5, 6, 7, 9, 10, 11, 20, 21,
        30, 31, 59, 60, 61, 99, 100, 127, 128, 150, 999, 1000, 65536, 999999, 1000000, Integer.MAX_VALUE};

    private final Due due = new Due("ModelTest");
    private final Random random;
    private final int run;
    private final BorrowedVoice x = new BorrowedVoice();
    private final Model model = new Model();
    private int left = CALLS;
    private boolean alike = true;

    private ModelTest(int run) {
        this.run = run;
        this.random = new Random(run);
    }

    public static void main(String[] args) {
        Due all = new Due("ModelTest");
        for (int run = 0; run < RUNS && all.wrongSoFar() < 10; run++) {
            ModelTest test = new ModelTest(run);
            test.go();
            all.is("run " + run + ": wrong answers", test.due.wrongSoFar(), 0);
        }
        all.end();
    }

    /** Behind its first wrong answer a run tells nothing more. */
    private void same(String name, int... a) {
        if (left == 0 || !alike) {
            return;
        }
        left--;
        String call = "run " + run + ", call " + (CALLS - left) + ": " + name + Arrays.toString(a);
        due.is(call, Caller.call(x, name, a), model.call(name, a));
        alike = due.wrongSoFar() == 0;
    }

    private void go() {
        int people = random.nextInt(8);
        for (int i = 0; i < people; i++) {
            same("one", random.nextInt(6), random.nextInt(10), random.nextInt(10));
        }
        if (run % 10 == 9) {
            goNearTheLastEvening();
        }
        while (left > 0 && alike) {
            act();
        }
    }

    private void goNearTheLastEvening() {
        for (int i = 0; i < 33; i++) {
            same("evening", 30);
        }
    }

    private void act() {
        switch (random.nextInt(12)) {
            case 0: case 1: case 2:
                same("leave", who());
                break;
            case 3: case 4: case 5:
                same("lend", who(), who());
                break;
            case 6:
                same("evening", 1 + random.nextInt(random.nextInt(8) == 0 ? 30 : 4));
                break;
            case 7:
                if (random.nextInt(8) == 0) {
                    text();
                } else {
                    same("note", who(), random.nextInt(5), random.nextInt(4), random.nextInt(10), random.nextInt(5));
                }
                break;
            case 8:
                askAll();
                break;
            case 9:
                likelyCall();
                break;
            default:
                anyCall();
                break;
        }
        if (random.nextInt(4) == 0) {
            same("digest");
        }
    }

    private int who() {
        return random.nextInt(20) == 0 ? -1 + random.nextInt(9) : random.nextInt(6);
    }

    private void askAll() {
        int p = who();
        int v = who();
        for (String name : new String[] {"best", "ring", "is", "listen", "swaps", "whose"}) {
            if (random.nextBoolean()) {
                same(name, random.nextInt(4) == 0 ? -1 : p);
            }
        }
        for (String name : new String[] {"dumb", "own", "steps"}) {
            same(name);
        }
        same("of", p, random.nextInt(4));
        same("about", v, random.nextInt(7));
        same("fit", p, v);
        same("asks", p, who(), v);
        same("slips", v, random.nextInt(62));
        same("worst", random.nextInt(2));
        same("thieves", random.nextInt(7), random.nextInt(11));
        same("lents", random.nextInt(1000000), random.nextInt(61));
    }

    private void likelyCall() {
        switch (random.nextInt(8)) {
            case 0: same("undo"); break;
            case 1: same("image", random.nextInt(2)); break;
            case 2: same("from", random.nextInt(2)); break;
            case 3: same("status", random.nextInt(4)); break;
            case 4: same("part", random.nextInt(3)); break;
            case 5: same("count", random.nextInt(8)); break;
            case 6: same("one", random.nextInt(6), random.nextInt(10), random.nextInt(10)); break;
            default: same(random.nextInt(3) == 0 ? "counter" : "forget"); break;
        }
    }

    private void anyCall() {
        String[] name = Caller.NAMES[random.nextInt(Caller.NAMES.length)].split(" ");
        if (name[0].equals("counter") && random.nextInt(5) != 0) {
            return;
        }
        int[] a = new int[Integer.parseInt(name[1])];
        for (int i = 0; i < a.length; i++) {
            a[i] = random.nextInt(3) == 0 ? EXTREMES[random.nextInt(EXTREMES.length)] : random.nextInt(10);
        }
        same(name[0], a);
    }

    /** Most texts are nearly as told, so that faults lie far behind, too. */
    private void text() {
        same("clear");
        StringBuilder t = new StringBuilder("counter;");
        int items = random.nextInt(9);
        for (int i = 0; i < items; i++) {
            int kind = random.nextInt(4);
            if (i < 3 || kind == 0) {
                t.append("one ").append(random.nextInt(6)).append(' ').append(random.nextInt(10)).append(blanks())
                        .append(' ').append(random.nextInt(10));
            } else if (kind == 1) {
                t.append("lend").append(blanks()).append(random.nextInt(4)).append(' ').append(random.nextInt(4));
            } else {
                t.append("leave").append(blanks()).append(random.nextInt(4));
            }
            t.append(blanks()).append(';').append(blanks());
        }
        if (random.nextInt(3) == 0) {
            String odd = "abelnotuvd0123456789;; A-\n{/:`";
            t.setCharAt(random.nextInt(t.length()), odd.charAt(random.nextInt(odd.length())));
        }
        if (random.nextInt(4) == 0) {
            t.setLength(random.nextInt(t.length() + 1));
        }
        for (int i = 0; i < t.length(); i++) {
            same("type", t.charAt(i));
        }
        same("read");
        same("digest");
    }

    private String blanks() {
        return " ".repeat(random.nextInt(6) == 0 ? random.nextInt(3) : 0);
    }
}

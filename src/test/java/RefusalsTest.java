/**
 * "Refused, changing nothing but STATUS, the first of: BAD -2 a number is not as told; NO -3 as told;
 * FULL -4 (where others are told they count as these)." Each refused call with its answer and STATUS,
 * that all else stays, and which comes first where two would do.
 */
public final class RefusalsTest {
    private static final int NONE = BorrowedVoice.NONE, BAD = BorrowedVoice.BAD, NO = BorrowedVoice.NO,
            FULL = BorrowedVoice.FULL;
    private static final int BY_TEN = -10;
    private static final String LOW = "-2147483648", HIGH = "2147483647";
    private static final String RICH = Script.RICH, SIX = Script.SIX, NOBODY = Script.NOBODY;
    private static final String NEW = "";
    private static final String ON_999 = RICH + ", " + Script.times(34, "evening 30");

    private static final Due due = new Due("RefusalsTest");

    public static void main(String[] args) {
        one();
        type();
        lend();
        leave();
        evening();
        undo();
        of();
        about();
        fit();
        best();
        ring();
        swaps();
        worst();
        slips();
        note();
        is();
        listen();
        whose();
        asks();
        thieves();
        lents();
        part();
        image();
        from();
        status();
        count();
        eachIsCounted();
        noRefusals();
        changesNothing();
        due.end();
    }

    private static void refused(String sentence, String run, long answer, int status, String... calls) {
        for (String call : calls) {
            Script.stays(due, sentence, run, call, answer, status);
        }
    }

    private static void bad(String sentence, String run, String... calls) {
        refused(sentence, run, BAD, 0, calls);
    }

    private static void badByTen(String sentence, String run, String... calls) {
        refused(sentence, run, BY_TEN, 0, calls);
    }

    private static void no(String sentence, String run, String... calls) {
        refused(sentence, run, NO, 1, calls);
    }

    private static void full(String sentence, String run, String... calls) {
        refused(sentence, run, FULL, 2, calls);
    }

    private static void one() {
        bad("a KIND", RICH, "one -1 0 0", "one 6 0 0", "one " + LOW + " 0 0", "one " + HIGH + " 0 0");
        bad("a SORT (0 .. 9)", RICH, "one 0 -1 0", "one 0 10 0", "one 0 " + LOW + " 0", "one 0 " + HIGH + " 0");
        bad("WANTS (a SORT, 0 .. 9)", RICH, "one 0 0 -1", "one 0 0 10", "one 0 0 " + LOW, "one 0 0 " + HIGH);
        full("one: FULL: 6", SIX, "one 0 0 0", "one 5 9 9");
        bad("one: BAD ahead of FULL", SIX, "one 6 0 0", "one -1 0 0", "one 0 10 0", "one 0 -1 0", "one 0 0 10",
                "one 0 0 -1");
    }

    private static void type() {
        bad("A byte (0 .. 127)", RICH, "type -1", "type 128", "type 255", "type 256", "type " + LOW, "type " + HIGH);
        String whole = RICH + ", clear, " + Script.typed("counter;" + " ".repeat(142));
        full("a TEXT (150 bytes at most)", whole, "type 97", "type 0", "type 127", "type 32", "type 59");
        bad("type: BAD ahead of FULL", whole, "type -1", "type 128");
    }

    private static void lend() {
        badByTen("lend: BAD: -10, a VOICE", RICH, "lend -1 0", "lend 4 0", "lend " + LOW + " 0", "lend " + HIGH + " 0");
        badByTen("lend: BAD: -10, one", RICH, "lend 2 -1", "lend 2 4", "lend 2 " + LOW, "lend 2 " + HIGH);
        badByTen("lend: counted once", RICH, "lend -1 -1", "lend 4 4");
        badByTen("lend: nobody is there", NOBODY, "lend 0 0");
        badByTen("lend: a new object", NEW, "lend 0 0");
        badByTen("lend: a seventh", SIX, "lend 6 0", "lend 1 6");
        no("lend: it is not at THE COUNTER", RICH, "lend 0 0", "lend 1 3");
        no("lend: it is with the one already", RICH, "lend 0 1", "lend 1 2");
        no("lend: it is with its own", "one 0 5 5, one 0 5 5", "lend 0 0", "lend 0 1");
        badByTen("lend: BAD ahead of NO", RICH, "lend 0 4", "lend 0 -1", "lend 1 " + HIGH);
    }

    private static void leave() {
        bad("leave: BAD", RICH, "leave -1", "leave 4", "leave " + LOW, "leave " + HIGH);
        bad("leave: nobody is there", NOBODY, "leave 0", "leave -1");
        bad("leave: a seventh", SIX, "leave 6");
        no("leave: one is dumb", RICH, "leave 0", "leave 3");
        no("leave: one is dumb, on 999", ON_999, "leave 0");
    }

    private static void evening() {
        bad("evening: n (1 .. 30)", RICH, "evening 0", "evening -1", "evening 31", "evening " + LOW, "evening " + HIGH);
        bad("evening: on 999, too", ON_999, "evening 0", "evening 31");
        bad("evening: nobody is there", NOBODY, "evening 0", "evening 31");
    }

    private static void undo() {
        no("undo: none may be", NEW, "undo");
        no("undo: behind one that comes", RICH + ", one 0 0 0", "undo");
        no("undo: behind counter", RICH + ", counter", "undo");
        no("undo: behind a COUNTER that is read", RICH + ", read", "undo");
        no("undo: behind all that may be", RICH + ", " + Script.times(7, "undo"), "undo");
        no("undo: 8 at most, not the 9th", RICH + ", leave 1, leave 2, " + Script.times(8, "undo"), "undo");
        no("undo: from an IMAGE of which none may be", "one 0 0 0, image 0, leave 0, from 0", "undo");
    }

    private static void of() {
        badByTen("of: one", RICH, "of -1 0", "of 4 0", "of " + LOW + " 0", "of " + HIGH + " 2");
        badByTen("of: what (0 .. 2)", RICH, "of 0 -1", "of 0 3", "of 0 " + LOW, "of 0 " + HIGH);
        badByTen("of: counted once", RICH, "of -1 3");
        badByTen("of: nobody is there", NOBODY, "of 0 0", "of 0 1", "of 0 2");
        badByTen("of: a seventh", SIX, "of 6 0");
    }

    private static void about() {
        badByTen("about: a VOICE", RICH, "about -1 0", "about 4 0", "about " + LOW + " 0", "about " + HIGH + " 5");
        badByTen("about: what (0 .. 5)", RICH, "about 0 -1", "about 0 6", "about 0 " + LOW, "about 0 " + HIGH);
        badByTen("about: counted once", RICH, "about 4 6");
        badByTen("about: nobody is there", NOBODY, "about 0 0", "about 0 1", "about 0 2", "about 0 3", "about 0 4",
                "about 0 5");
        badByTen("about: a seventh", SIX, "about 6 0");
    }

    private static void fit() {
        bad("fit: one", RICH, "fit -1 0", "fit 4 0", "fit " + LOW + " 0", "fit " + HIGH + " 0");
        bad("fit: a VOICE", RICH, "fit 0 -1", "fit 0 4", "fit 0 " + LOW, "fit 0 " + HIGH);
        bad("fit: counted once", RICH, "fit -1 4");
        bad("fit: nobody is there", NOBODY, "fit 0 0");
        bad("fit: a seventh", SIX, "fit 6 0", "fit 0 6");
    }

    private static void best() {
        badByTen("best: BAD: -10", RICH, "best -2", "best 4", "best " + LOW, "best " + HIGH);
        badByTen("best: nobody is there", NOBODY, "best 0", "best -2");
        badByTen("best: a seventh", SIX, "best 6");
    }

    private static void ring() {
        bad("ring: BAD", RICH, "ring -1", "ring 4", "ring " + LOW, "ring " + HIGH);
        bad("ring: nobody is there", NOBODY, "ring 0");
        bad("ring: a seventh", SIX, "ring 6");
    }

    private static void swaps() {
        badByTen("swaps: BAD: -10", RICH, "swaps -2", "swaps -5", "swaps " + LOW);
        badByTen("swaps: BAD ahead of -5", NOBODY, "swaps -2");
    }

    private static void worst() {
        bad("worst: who (0), how much (1)", RICH, "worst -1", "worst 2", "worst " + LOW, "worst " + HIGH);
        bad("worst: BAD ahead of NONE", NOBODY, "worst -1", "worst 2");
    }

    private static void slips() {
        bad("slips: a VOICE", RICH, "slips -1 0", "slips 4 0", "slips " + LOW + " 0", "slips " + HIGH + " 0");
        bad("m (0 .. 60)", RICH, "slips 0 -1", "slips 0 61", "slips 0 " + LOW, "slips 0 " + HIGH);
        bad("slips: a VOICE at THE COUNTER, too", RICH, "slips 2 61", "slips 2 -1");
        bad("slips: nobody is there", NOBODY, "slips 0 0");
        bad("slips: a seventh", SIX, "slips 6 0");
    }

    private static void note() {
        bad("note: a VOICE", RICH, "note -1 0 0 0 0", "note 4 0 0 0 0", "note " + LOW + " 0 0 0 0",
                "note " + HIGH + " 0 0 0 0");
        bad("u (0 .. 20)", RICH, "note 0 -1 0 0 0", "note 0 21 0 0 0", "note 0 " + LOW + " 0 0 0");
        bad("d (0 .. 99)", RICH, "note 0 0 -1 0 0", "note 0 0 100 0 0", "note 0 0 " + HIGH + " 0 0");
        bad("s (0 .. 9)", RICH, "note 0 0 0 -1 0", "note 0 0 0 10 0", "note 0 0 0 " + LOW + " 0");
        bad("w (0 .. 9)", RICH, "note 0 0 0 0 -1", "note 0 0 0 0 10", "note 0 0 0 0 " + HIGH);
        bad("note: nobody is there", NOBODY, "note 0 0 0 0 0");
        String whole = SIX + ", " + Script.times(5, "note 1 2 3 4 5");
        full("note: FULL: 6", whole, "note 0 0 0 0 0", "note 5 20 99 9 9");
        bad("note: BAD ahead of FULL", whole, "note 6 0 0 0 0", "note 0 21 0 0 0", "note 0 0 100 0 0",
                "note 0 0 0 10 0", "note 0 0 0 0 10");
    }

    private static void is() {
        bad("is: BAD", RICH, "is -1", "is 4", "is " + LOW, "is " + HIGH);
        bad("is: nobody is there", NOBODY, "is 0");
        bad("is: a seventh", SIX, "is 6");
    }

    private static void listen() {
        bad("listen: BAD", RICH, "listen -1", "listen 4", "listen " + LOW, "listen " + HIGH);
        bad("listen: nobody is there, BAD ahead of NONE", NOBODY, "listen 0");
        bad("listen: a seventh", SIX, "listen 6");
    }

    private static void whose() {
        bad("WHOSE: SORT s (0 .. 9)", RICH, "whose -1", "whose 10", "whose " + LOW, "whose " + HIGH);
        bad("whose: nobody is there", NOBODY, "whose -1", "whose 10");
    }

    private static void asks() {
        bad("asks: a", RICH, "asks -1 1 2", "asks 4 1 2", "asks " + LOW + " 1 2", "asks " + HIGH + " 1 2");
        bad("asks: b", RICH, "asks 1 -1 2", "asks 1 4 2", "asks 1 " + LOW + " 2", "asks 1 " + HIGH + " 2");
        bad("asks: v", RICH, "asks 0 1 -1", "asks 0 1 4", "asks 0 1 " + LOW, "asks 0 1 " + HIGH);
        bad("asks: alike, too", RICH, "asks 0 0 2", "asks 1 1 3");
        bad("asks: nobody is there", NOBODY, "asks 0 1 0", "asks 0 0 0");
        no("asks: NO: it is not there", RICH, "asks 0 3 0", "asks 0 1 0", "asks 1 0 0", "asks 2 1 1");
        no("asks: NO: it is with its own", "one 0 5 5, one 0 5 5", "asks 0 1 0", "asks 0 1 1", "asks 1 0 1");
        bad("asks: BAD ahead of NO", RICH, "asks 1 1 0", "asks 0 4 0", "asks 4 0 1", "asks -1 0 1");
    }

    private static void thieves() {
        bad("n (0 .. 6)", RICH, "thieves -1 0", "thieves 7 0", "thieves " + LOW + " 0", "thieves " + HIGH + " 0");
        bad("c of 10 (0 .. 10)", RICH, "thieves 0 -1", "thieves 0 11", "thieves 0 " + LOW, "thieves 0 " + HIGH);
        bad("thieves: nobody is there", NOBODY, "thieves 7 0", "thieves 0 11");
    }

    private static void lents() {
        bad("SEED (0 .. 999999)", RICH, "lents -1 0", "lents 1000000 0", "lents " + LOW + " 0", "lents " + HIGH + " 0");
        bad("LENTS: n (0 .. 60)", RICH, "lents 0 -1", "lents 0 61", "lents 0 " + LOW, "lents 0 " + HIGH);
        no("lents: NO: nobody is there", NOBODY, "lents 0 0", "lents 0 1", "lents 999999 60");
        no("lents: NO: nobody is there yet", NEW, "lents 0 0");
        bad("lents: BAD ahead of NO", NOBODY, "lents -1 0", "lents 1000000 0", "lents 0 -1", "lents 0 61");
    }

    private static void part() {
        bad("part: above (0), below (1)", RICH, "part -1", "part 2", "part " + LOW, "part " + HIGH);
    }

    private static void image() {
        bad("IMAGES 0, 1", RICH, "image -1", "image 2", "image " + LOW, "image " + HIGH);
    }

    private static void from() {
        bad("from: BAD", RICH, "from -1", "from 2", "from " + LOW, "from " + HIGH);
        no("from: NO: none was kept", NEW, "from 0", "from 1");
        no("from: NO: only the other one was kept", SIX, "from 1");
        no("from: NO: only the second one was kept", "one 0 5 5, image 1, leave 0", "from 0");
        bad("from: BAD ahead of NO", NEW, "from -1", "from 2");
    }

    private static void status() {
        refused("-1: another what (counts as BAD)", RICH, -1, 0, "status -1", "status 3", "status " + LOW,
                "status " + HIGH);
    }

    private static void count() {
        bad("count: BAD", RICH, "count -1", "count 7", "count " + LOW, "count " + HIGH);
        bad("count: nobody is there", NOBODY, "count -1", "count 7");
    }

    private static void eachIsCounted() {
        Script.run(due, "STATUS: how many calls were refused as BAD, NO, FULL",
                "status 0 = 0, status 1 = 0, status 2 = 0, one 9 9 9 = -2, lend 0 0 = -10, status 3 = -1,",
                "status 0 = 3, status 1 = 0, status 2 = 0, undo = -3, from 0 = -3, status 1 = 2, status 0 = 3,",
                Script.times(6, "one 0 0 0"), "one 0 0 0 = -4, status 2 = 1, status 0 = 3, status 1 = 2,",
                "counter = 6, status 0 = 3, status 1 = 2, status 2 = 1,", Script.typed("counter;"), "read = 1,",
                "status 0 = 3, status 1 = 2, status 2 = 1, image 0 = 1, count 9 = -2, from 0 = 1, status 0 = 4");
    }

    /** Answers below 0 that no promise calls BAD, NO or FULL: STATUS stays, and so does all else. */
    private static void noRefusals() {
        String what = "(each answer told so below is such a one)";
        Script.stays(due, what, NOBODY, "worst 0", NONE, NONE);
        Script.stays(due, what, NOBODY, "worst 1", NONE, NONE);
        Script.stays(due, what, NOBODY, "swaps 0", -5, NONE);
        Script.stays(due, what, RICH, "swaps 15", -5, NONE);
        Script.stays(due, what, RICH, "swaps " + HIGH, -5, NONE);
        Script.stays(due, what, RICH + ", note 1 0 0 9 9", "listen 1", NONE, NONE);
        Script.stays(due, what, RICH, "of 0 1", NONE, NONE);
        Script.stays(due, what, RICH, "about 2 2", NONE, NONE);
        Script.stays(due, what, NEW, "read", -10, NONE);
        Script.run(due, "lend: NONE: one was dumb", RICH, "lend 2 0 = -1, status 0 = 0, status 1 = 0, status 2 = 0");
    }

    private static void changesNothing() {
        String[] calls = {"of 1 0", "of 1 1", "of 1 2", "about 1 3", "about 1 5", "fit 0 2", "best -1", "best 0",
            "dumb", "own", "ring 1", "swaps -1", "swaps 0", "steps", "worst 0", "worst 1", "slips 0 60", "is 0",
            "listen 0", "whose 5", "lents 5 60", "lents 0 0", "part 0", "part 1", "status 0", "status 1",
            "status 2", "count 0", "count 5", "count 6", "digest"};
        String swapping = "one 0 9 0, one 0 0 9, one 0 9 0, one 0 0 9, leave 0, lend 0 0, leave 3";
        for (String run : new String[] {RICH, SIX, swapping, ON_999}) {
            for (String call : calls) {
                changesNothing(run, call);
            }
        }
        changesNothing(RICH, "asks 0 1 2");
        changesNothing(RICH, "asks 1 0 2");
        changesNothing(SIX, "asks 0 2 1");
        changesNothing(ON_999, "asks 0 3 3");
    }

    private static void changesNothing(String run, String call) {
        BorrowedVoice x = Script.after(run);
        Script.does(x, call);
        Script.sameBut(due, "Nothing is changed by " + call + " behind " + run, x, Script.after(run), NONE);
    }
}

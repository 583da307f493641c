/** For each promise of the document: ordinary inputs, the edges that it names, wrong inputs. Faults are FaultsTest's. */
public final class PromisesTest {
    private static final int NONE = BorrowedVoice.NONE, BAD = BorrowedVoice.BAD, NO = BorrowedVoice.NO,
            FULL = BorrowedVoice.FULL;
    private static final int PLAIN = 0, BASS = 1, TREBLE = 2, REMEMBERS = 3, OLD = 4, DOUBLE = 5;
    private static final int LOW = Integer.MIN_VALUE, HIGH = Integer.MAX_VALUE;

    private static final Due due = new Due("PromisesTest");

    public static void main(String[] args) {
        constants();
        newObject();
        counter();
        one();
        type();
        clear();
        readItems();
        readReplaces();
        lend();
        leave();
        evening();
        lastEvening();
        undo();
        of();
        about();
        sounds();
        fit();
        best();
        dumb();
        own();
        ring();
        swaps();
        steps();
        worst();
        slips();
        note();
        forget();
        is();
        listen();
        whose();
        asks();
        thieves();
        lents();
        part();
        image();
        from();
        status();
        count();
        digest();
        due.end();
    }

    private static void constants() {
        due.is("NONE", NONE, -1);
        due.is("BAD", BAD, -2);
        due.is("NO", NO, -3);
        due.is("FULL", FULL, -4);
    }

    // ---- helpers

    /** So many people, each with a plain voice of the sort that each wants: their own numbers. */
    private static BorrowedVoice plain(int people) {
        BorrowedVoice x = new BorrowedVoice();
        for (int i = 0; i < people; i++) {
            x.one(PLAIN, i, i);
        }
        return x;
    }

    /** Each of these people gets the voice told at the place of the own number; NONE: dumb. */
    private static void arrange(BorrowedVoice x, int... voices) {
        for (int p = 0; p < voices.length; p++) {
            if (x.of(p, 1) != NONE) {
                x.leave(p);
            }
        }
        for (int p = 0; p < voices.length; p++) {
            if (voices[p] != NONE) {
                x.lend(voices[p], p);
            }
        }
    }

    private static int readText(BorrowedVoice x, String text) {
        x.clear();
        for (int i = 0; i < text.length(); i++) {
            x.type(text.charAt(i));
        }
        return x.read();
    }

    private static void readDue(String text, int want) {
        due.is("read of '" + text + "'", readText(new BorrowedVoice(), text), want);
    }

    /** Something that is refused changes nothing but the one status. */
    private static void refused(BorrowedVoice x, String name, int answer, int status, int... a) {
        long before = x.digest();
        int[] were = {x.status(0), x.status(1), x.status(2)};
        due.is(name, Caller.call(x, name, a), answer);
        due.is("digest behind a refused " + name, x.digest(), before);
        for (int i = 0; i < 3; i++) {
            due.is("status(" + i + ") behind a refused " + name, x.status(i), were[i] + (i == status ? 1 : 0));
        }
    }

    private static void bad(BorrowedVoice x, String name, int... a) {
        refused(x, name, BAD, 0, a);
    }

    private static void badByTen(BorrowedVoice x, String name, int... a) {
        refused(x, name, -10, 0, a);
    }

    private static void no(BorrowedVoice x, String name, int... a) {
        refused(x, name, NO, 1, a);
    }

    private static void full(BorrowedVoice x, String name, int... a) {
        refused(x, name, FULL, 2, a);
    }

    // ---- promise 1

    private static void newObject() {
        BorrowedVoice x = new BorrowedVoice();
        for (int what = 0; what <= 6; what++) {
            due.is("new: count(" + what + ")", x.count(what), 0);
        }
        due.is("new: part(0)", x.part(0), 0);
        due.is("new: part(1)", x.part(1), 1);
        due.is("new: status", x.status(0) + x.status(1) + x.status(2), 0);
        due.is("new: dumb", x.dumb(), 0);
        due.is("new: own", x.own(), 0);
        no(x, "undo");
        no(x, "from", 0);
        no(x, "from", 1);
    }

    // ---- promise 2

    private static void counter() {
        BorrowedVoice x = plain(3);
        x.image(0);
        x.type('a');
        x.leave(0);
        x.thieves(1, 3);
        x.note(0, 0, 0, 0, 0);
        x.evening(2);
        x.one(9, 0, 0);
        due.is("counter", x.counter(), 3);
        for (int what = 0; what <= 5; what++) {
            due.is("count(" + what + ") behind counter", x.count(what), 0);
        }
        due.is("the text stays", x.count(6), 1);
        due.is("the fraction stays, above", x.part(0), 7);
        due.is("the fraction stays, below", x.part(1), 10);
        due.is("status stays", x.status(0), 1);
        due.is("counter again", x.counter(), 0);
        due.is("the image stays", x.from(0), 1);
        due.is("the image's people", x.count(0), 3);
        x.counter();
        due.is("one behind counter", x.one(TREBLE, 1, 1), 0);
        due.is("that one's voice", x.about(0, 2), 0);
        due.is("that one's used", x.about(0, 3), 0);
    }

    // ---- promise 3

    private static void one() {
        BorrowedVoice x = new BorrowedVoice();
        bad(x, "one", -1, 0, 0);
        bad(x, "one", 6, 0, 0);
        bad(x, "one", 0, -1, 0);
        bad(x, "one", 0, 10, 0);
        bad(x, "one", 0, 0, -1);
        bad(x, "one", 0, 0, 10);
        bad(x, "one", LOW, HIGH, LOW);
        for (int i = 0; i < 6; i++) {
            due.is("one", x.one(i, 9 - i, i), i);
            due.is("its kind", x.about(i, 0), i);
            due.is("its sort", x.about(i, 1), 9 - i);
            due.is("what it wants", x.of(i, 0), i);
            due.is("its voice", x.of(i, 1), i);
        }
        full(x, "one", 5, 9, 9);
        bad(x, "one", 6, 0, 0);
        due.is("people", x.count(0), 6);
    }

    // ---- promise 4

    private static void type() {
        BorrowedVoice x = new BorrowedVoice();
        bad(x, "type", -1);
        bad(x, "type", 128);
        bad(x, "type", LOW);
        bad(x, "type", HIGH);
        for (int i = 1; i <= 150; i++) {
            due.is("type", x.type(i % 128), i);
        }
        full(x, "type", 'a');
        bad(x, "type", 128);
        due.is("bytes", x.count(6), 150);
        due.is("clear", x.clear(), 150);
        due.is("type behind clear", x.type(0), 1);
        due.is("type of 127", x.type(127), 2);
    }

    // ---- promise 5

    private static void clear() {
        BorrowedVoice x = new BorrowedVoice();
        due.is("clear of none", x.clear(), 0);
        x.type('a');
        x.type('b');
        due.is("clear", x.clear(), 2);
        due.is("clear again", x.clear(), 0);
        due.is("read behind clear", x.read(), -10);
    }

    // ---- promise 6

    private static void readItems() {
        readDue("counter;", 1);
        readDue("  counter  ;  ", 1);
        readDue("counter;one 0 0 0;", 2);
        readDue("counter;one5 9 9;", 2);
        readDue("counter;one 05 09 00;", 2);
        readDue("counter;one 1 2 3;leave0;lend0 0;", 4);
        readDue("counter;one 0 0 0;one 0 0 0;one 0 0 0;one 0 0 0;one 0 0 0;one 0 0 0;", 7);
        BorrowedVoice x = new BorrowedVoice();
        due.is("read", readText(x, "counter;one 5 3 8;one 04 7 01;leave 1;lend 1 0;leave 0;lend 0 1;"), 7);
        due.is("kind", x.about(1, 0), OLD);
        due.is("sort", x.about(1, 1), 7);
        due.is("wants", x.of(1, 0), 1);
        due.is("dumb", x.dumb(), 1);
        due.is("with whom 0 is", x.about(0, 2), 1);
        due.is("with whom 1 is", x.about(1, 2), NONE);
        String longest = "counter;" + "one 0 0 0;leave 0;" + "lend 0 0;leave 0;".repeat(7);
        longest = longest + " ".repeat(150 - longest.length());
        due.is("a text of 150 bytes", readText(x, longest), 17);
    }

    private static void readReplaces() {
        BorrowedVoice x = plain(3);
        x.image(1);
        x.leave(0);
        x.evening(5);
        x.note(0, 0, 0, 0, 0);
        x.thieves(1, 3);
        x.undo();
        x.undo();
        x.undo();
        x.evening(1);
        due.is("read", readText(x, "counter;one 0 1 2;"), 2);
        due.is("people", x.count(0), 1);
        due.is("evening", x.count(1), 0);
        due.is("notes", x.count(4), 0);
        due.is("undos", x.count(5), 0);
        due.is("the text stays", x.count(6), 18);
        due.is("the fraction stays", x.part(1), 10);
        due.is("status stays", x.status(1), 1);
        due.is("read again", x.read(), 2);
        due.is("the image stays", x.from(1), 1);
        due.is("its people", x.count(0), 3);
    }

    // ---- promise 7

    private static void lend() {
        BorrowedVoice x = plain(3);
        no(x, "lend", 0, 0);
        no(x, "lend", 1, 0);
        badByTen(x, "lend", 3, 0);
        badByTen(x, "lend", 0, 3);
        badByTen(x, "lend", -1, 0);
        badByTen(x, "lend", 0, -1);
        badByTen(x, "lend", HIGH, LOW);
        x.evening(4);
        x.leave(0);
        due.is("lend for one's own", x.lend(0, 1), 1);
        due.is("what was left lies at the counter", x.about(1, 2), NONE);
        due.is("and is not used there", x.about(1, 3), 0);
        due.is("the lent one is with one", x.about(0, 2), 1);
        due.is("the lent one is not used yet", x.about(0, 3), 0);
        due.is("others stay used", x.about(2, 3), 4);
        due.is("lend to a dumb one", x.lend(1, 0), NONE);
        due.is("two that may be undone by lending", x.count(5), 4);
        badByTen(new BorrowedVoice(), "lend", 0, 0);
    }

    // ---- promise 8

    private static void leave() {
        BorrowedVoice x = plain(2);
        bad(x, "leave", -1);
        bad(x, "leave", 2);
        bad(x, "leave", LOW);
        x.evening(2);
        due.is("leave", x.leave(1), 1);
        due.is("used at the counter", x.about(1, 3), 0);
        due.is("with nobody", x.about(1, 2), NONE);
        no(x, "leave", 1);
        x.lend(1, 0);
        due.is("leave what was lent", x.leave(0), 1);
        bad(new BorrowedVoice(), "leave", 0);
    }

    // ---- promise 9

    private static void evening() {
        BorrowedVoice x = plain(2);
        bad(x, "evening", 0);
        bad(x, "evening", -1);
        bad(x, "evening", 31);
        bad(x, "evening", HIGH);
        due.is("nothing slips with their own", x.evening(30), 0);
        due.is("evening", x.count(1), 30);
        due.is("used", x.about(0, 3), 30);
        wordsDue(PLAIN, 1, 1, 1, 0, 0);
        wordsDue(BASS, 1, 1, 1, 0, 0);
        wordsDue(TREBLE, 2, 2, 2, 1, 1);
        wordsDue(REMEMBERS, 3, 2, 1, 1, 1);
        wordsDue(OLD, 1, 1, 1, 0, 0);
        wordsDue(DOUBLE, 4, 4, 4, 2, 2);
        x = plain(3);
        arrange(x, 1, 2, NONE);
        due.is("words of all", x.evening(5), 6);
        due.is("at the counter nothing slips", x.about(0, 4), 0);
        due.is("at the counter none is used", x.about(0, 3), 0);
        due.is("slipped", x.about(1, 4), 3);
        due.is("evening with nobody", new BorrowedVoice().evening(30), 0);
    }

    private static void wordsDue(int kind, int... words) {
        BorrowedVoice x = new BorrowedVoice();
        x.one(kind, 5, 5);
        x.one(PLAIN, 5, 5);
        arrange(x, NONE, 0);
        int all = 0;
        for (int u = 0; u < words.length; u++) {
            due.is("kind " + kind + ", used", x.about(0, 3), u);
            due.is("kind " + kind + ", words with used " + u, x.evening(1), words[u]);
            all += words[u];
            due.is("kind " + kind + ", slipped", x.about(0, 4), all);
        }
        arrange(x, NONE, 0);
        due.is("kind " + kind + ", lent anew", x.evening(1), words[0]);
    }

    private static void lastEvening() {
        BorrowedVoice x = new BorrowedVoice();
        x.one(DOUBLE, 5, 5);
        x.one(PLAIN, 5, 5);
        arrange(x, NONE, 0);
        for (int i = 0; i < 33; i++) {
            x.evening(30);
        }
        due.is("evening", x.count(1), 990);
        due.is("slips go on beyond 999", x.slips(0, 60), 3 * 4 + 987 * 2 + 120);
        due.is("only nine go by", x.evening(30), 18);
        due.is("evening", x.count(1), 999);
        due.is("none goes by on 999", x.evening(1), 0);
        due.is("evening", x.count(1), 999);
        due.is("used", x.about(0, 3), 999);
        due.is("slips on 999", x.slips(0, 1), 3 * 4 + 996 * 2 + 2);
        due.is("lents on 999", x.lents(7, 60), 0);
        due.is("undo of none", x.undo(), 999);
        due.is("undo of nine", x.undo(), 990);
    }

    // ---- promise 10

    private static void undo() {
        BorrowedVoice x = plain(3);
        no(x, "undo");
        long[] digests = new long[12];
        int[] evenings = new int[12];
        int done = 0;
        for (int i = 0; i < 3; i++) {
            digests[done] = placesOf(x);
            evenings[done++] = x.count(1);
            x.leave(i);
            digests[done] = placesOf(x);
            evenings[done++] = x.count(1);
            x.lend(i, (i + 1) % 3);
            digests[done] = placesOf(x);
            evenings[done++] = x.count(1);
            x.evening(3 + i);
        }
        x.note(0, 0, 0, 0, 0);
        due.is("eight at most", x.count(5), 8);
        for (int i = 8; i >= 1; i--) {
            due.is("undo", x.undo(), evenings[i]);
            due.is("as it was", placesOf(x), digests[i]);
            due.is("so many are left", x.count(5), i - 1);
        }
        no(x, "undo");
        due.is("notes are not undone", x.count(4), 1);
        x.leave(1);
        x.one(9, 9, 9);
        due.is("one refused leaves it", x.count(5), 1);
        x.one(0, 0, 0);
        due.is("behind one that comes none may be", x.count(5), 0);
        no(x, "undo");
        x.evening(2);
        x.leave(99);
        x.evening(0);
        x.lend(2, 2);
        due.is("what was refused is not undone", x.count(5), 1);
        due.is("several evenings are one", x.undo(), x.count(1));
    }

    /** Where voices are, used, slipped, and the evening: what undo brings back. */
    private static long placesOf(BorrowedVoice x) {
        long h = x.count(1);
        for (int v = 0; v < x.count(0); v++) {
            for (int what = 2; what <= 4; what++) {
                h = 1009 * h + x.about(v, what);
            }
        }
        return h;
    }

    // ---- promise 11

    private static void of() {
        BorrowedVoice x = new BorrowedVoice();
        badByTen(x, "of", 0, 0);
        x.one(PLAIN, 3, 8);
        x.one(TREBLE, 9, 0);
        due.is("wants", x.of(0, 0), 8);
        due.is("voice", x.of(0, 1), 0);
        due.is("fit now", x.of(0, 2), 4);
        due.is("as unfit as can be", x.of(1, 2), 0);
        arrange(x, 1, NONE);
        due.is("lent voice", x.of(0, 1), 1);
        due.is("fit with it", x.of(0, 2), 8);
        due.is("no voice", x.of(1, 1), NONE);
        due.is("dumb", x.of(1, 2), 0);
        badByTen(x, "of", 2, 0);
        badByTen(x, "of", -1, 0);
        badByTen(x, "of", 0, 3);
        badByTen(x, "of", 0, -1);
        badByTen(x, "of", LOW, HIGH);
    }

    // ---- promise 12

    private static void about() {
        BorrowedVoice x = new BorrowedVoice();
        badByTen(x, "about", 0, 0);
        x.one(REMEMBERS, 4, 2);
        x.one(PLAIN, 1, 1);
        arrange(x, NONE, 0);
        x.evening(2);
        int[] want = {REMEMBERS, 4, 1, 2, 5, 4};
        for (int what = 0; what < want.length; what++) {
            due.is("about(0, " + what + ")", x.about(0, what), want[what]);
        }
        due.is("at the counter", x.about(1, 2), NONE);
        badByTen(x, "about", 2, 0);
        badByTen(x, "about", -1, 0);
        badByTen(x, "about", 0, 6);
        badByTen(x, "about", 0, -1);
        badByTen(x, "about", HIGH, LOW);
    }

    private static void sounds() {
        int[] sorts = {0, 1, 2, 3, 7, 8, 9};
        int[][] even = {{0, 1, 2, 3, 7, 8, 9}, {0, 0, 0, 1, 5, 6, 7}, {2, 3, 4, 5, 9, 9, 9},
            {0, 1, 2, 3, 7, 8, 9}, {0, 0, 0, 1, 5, 6, 7}, {2, 3, 4, 5, 9, 9, 9}};
        int[] oldOnOdd = {0, 0, 0, 0, 4, 5, 6};
        for (int kind = PLAIN; kind <= DOUBLE; kind++) {
            for (int i = 0; i < sorts.length; i++) {
                BorrowedVoice x = new BorrowedVoice();
                x.one(kind, sorts[i], 0);
                String what = "kind " + kind + " of sort " + sorts[i] + " on evening ";
                due.is(what + 0, x.about(0, 5), even[kind][i]);
                x.evening(1);
                due.is(what + 1, x.about(0, 5), kind == OLD ? oldOnOdd[i] : even[kind][i]);
                x.evening(1);
                due.is(what + 2, x.about(0, 5), even[kind][i]);
            }
        }
    }

    // ---- promise 13

    private static void fit() {
        BorrowedVoice x = new BorrowedVoice();
        bad(x, "fit", 0, 0);
        x.one(OLD, 9, 9);
        x.one(PLAIN, 0, 0);
        due.is("fit below", x.fit(0, 0), 7);
        due.is("fit above", x.fit(1, 0), 2);
        due.is("not fit at all", x.fit(0, 1), 0);
        due.is("quite fit", x.fit(1, 1), 9);
        x.leave(0);
        due.is("had one it, dumb or not", x.fit(0, 0), 7);
        x.evening(1);
        due.is("on this evening", x.fit(0, 0), 6);
        bad(x, "fit", 2, 0);
        bad(x, "fit", 0, 2);
        bad(x, "fit", -1, 0);
        bad(x, "fit", 0, -1);
        bad(x, "fit", LOW, HIGH);
    }

    // ---- promise 14

    private static void best() {
        BorrowedVoice x = new BorrowedVoice();
        due.is("nobody", x.best(NONE), 0);
        badByTen(x, "best", 0);
        badByTen(x, "best", -2);
        x.one(PLAIN, 9, 0);
        x.one(PLAIN, 0, 5);
        x.one(PLAIN, 5, 9);
        due.is("the most", x.best(NONE), 27);
        due.is("for 0", x.best(0), 1);
        due.is("for 1", x.best(1), 2);
        due.is("for 2", x.best(2), 0);
        arrange(x, NONE, NONE, NONE);
        due.is("those at the counter, too", x.best(NONE), 27);
        badByTen(x, "best", 3);
        badByTen(x, "best", -2);
        badByTen(x, "best", HIGH);
        x = new BorrowedVoice();
        for (int i = 0; i < 6; i++) {
            x.one(PLAIN, 4, 6);
        }
        due.is("all alike", x.best(NONE), 42);
        for (int p = 0; p < 6; p++) {
            due.is("the first of many ways, for " + p, x.best(p), p);
        }
        due.is("nothing is changed", x.own(), 0);
        x = new BorrowedVoice();
        x.one(PLAIN, 2, 3);
        x.one(PLAIN, 6, 9);
        due.is("more by both than by one", x.best(NONE), 14);
        due.is("so each keeps the own", x.best(0), 0);
    }

    // ---- promise 15

    private static void dumb() {
        BorrowedVoice x = plain(6);
        due.is("none", x.dumb(), 0);
        arrange(x, 5, NONE, 0, 1, NONE, NONE);
        due.is("1, 4, 5", x.dumb(), 50);
        arrange(x, NONE, NONE, NONE, NONE, NONE, NONE);
        due.is("all", x.dumb(), 63);
    }

    // ---- promise 16

    private static void own() {
        ownDue(0, 0, 1, 2);
        ownDue(1, NONE, 1, 2);
        ownDue(3, 1, 0);
        ownDue(4, 1, 2, 0);
        ownDue(2, 1, NONE);
        ownDue(9, 1, 0, 3, 2, 5, 4);
        ownDue(7, 1, 2, 3, 4, 5, 0);
        ownDue(6, 1, 2, 3, 4, 5, NONE);
        ownDue(6, 1, 0, 3, 4, NONE, 5);
        ownDue(8, 2, 5, 4, 1, 0, 3);
    }

    private static void ownDue(int want, int... voices) {
        BorrowedVoice x = plain(voices.length);
        arrange(x, voices);
        due.is("own", x.own(), want);
    }

    // ---- promise 17

    private static void ring() {
        BorrowedVoice x = plain(6);
        arrange(x, 1, 2, 0, 3, 5, NONE);
        int[] want = {3, 3, 3, 1, 0, 0};
        for (int p = 0; p < 6; p++) {
            due.is("ring(" + p + ")", x.ring(p), want[p]);
        }
        arrange(x, 5, 0, 1, 2, 3, 4);
        for (int p = 0; p < 6; p++) {
            due.is("ring of all", x.ring(p), 6);
        }
        bad(x, "ring", 6);
        bad(x, "ring", -1);
        bad(x, "ring", HIGH);
        bad(new BorrowedVoice(), "ring", 0);
    }

    // ---- promise 18

    private static void swaps() {
        BorrowedVoice x = new BorrowedVoice();
        due.is("nobody", x.swaps(NONE), 0);
        due.is("nobody's first", x.swaps(0), -5);
        x.one(PLAIN, 9, 0);
        x.one(PLAIN, 0, 9);
        x.one(PLAIN, 9, 0);
        x.one(PLAIN, 0, 9);
        due.is("how many", x.swaps(NONE), 4);
        int[] want = {1, 3, 12, 23};
        for (int k = 0; k < 4; k++) {
            due.is("swaps(" + k + ")", x.swaps(k), want[k]);
        }
        due.is("not so many", x.swaps(4), -5);
        due.is("not so many by far", x.swaps(HIGH), -5);
        due.is("which is no refusal", x.status(0), 0);
        x.leave(0);
        due.is("a dumb one swaps with none", x.swaps(NONE), 2);
        due.is("the first then", x.swaps(0), 12);
        badByTen(x, "swaps", -2);
        badByTen(x, "swaps", LOW);
        x = new BorrowedVoice();
        x.one(PLAIN, 9, 0);
        x.one(PLAIN, 0, 0);
        due.is("only one would rather", x.swaps(NONE), 0);
        x = new BorrowedVoice();
        x.one(PLAIN, 4, 6);
        x.one(PLAIN, 5, 5);
        x.one(PLAIN, 5, 4);
        due.is("as fit is not more fit", x.swaps(NONE), 1);
        due.is("the pair", x.swaps(0), 2);
    }

    // ---- promise 19

    private static void steps() {
        BorrowedVoice x = new BorrowedVoice();
        due.is("nobody", x.steps(), 0);
        x.one(PLAIN, 9, 0);
        x.one(PLAIN, 0, 9);
        x.one(PLAIN, 9, 0);
        x.one(PLAIN, 0, 9);
        long before = x.digest();
        due.is("two", x.steps(), 2);
        due.is("nothing is changed", x.digest(), before);
        x = new BorrowedVoice();
        x.one(PLAIN, 9, 0);
        x.one(PLAIN, 6, 9);
        x.one(PLAIN, 0, 5);
        // 0 with 1, then 0 with 2: the second only behind the first
        due.is("one by one", x.steps(), 2);
        due.is("still the first", x.swaps(0), 1);
    }

    // ---- promise 20

    private static void worst() {
        BorrowedVoice x = new BorrowedVoice();
        due.is("nobody", x.worst(0), NONE);
        due.is("nobody's", x.worst(1), NONE);
        due.is("which is no refusal", x.status(0) + x.status(1), 0);
        x.one(PLAIN, 5, 5);
        x.one(PLAIN, 3, 5);
        x.one(PLAIN, 7, 5);
        due.is("the first of like ones", x.worst(0), 1);
        due.is("how much", x.worst(1), 7);
        x.leave(2);
        due.is("a dumb one", x.worst(0), 2);
        due.is("how much then", x.worst(1), 0);
        bad(x, "worst", 2);
        bad(x, "worst", -1);
        bad(x, "worst", LOW);
        bad(new BorrowedVoice(), "worst", 2);
    }

    // ---- promise 21

    private static void slips() {
        BorrowedVoice x = new BorrowedVoice();
        bad(x, "slips", 0, 0);
        x.one(REMEMBERS, 5, 5);
        x.one(TREBLE, 5, 5);
        x.one(DOUBLE, 5, 5);
        arrange(x, 1, 0, NONE);
        due.is("none go by", x.slips(0, 0), 0);
        due.is("remembers", x.slips(0, 60), 3 + 2 + 58);
        due.is("treble", x.slips(1, 4), 7);
        due.is("at the counter", x.slips(2, 60), 0);
        x.evening(2);
        long before = x.digest();
        due.is("so far", x.slips(0, 0), 5);
        due.is("from here", x.slips(0, 3), 8);
        due.is("from here, too", x.slips(1, 3), 4 + 2 + 1 + 1);
        due.is("nothing is changed", x.digest(), before);
        x.leave(1);
        due.is("left, it stays", x.slips(0, 60), 5);
        x.lend(0, 0);
        due.is("with its own, too", x.slips(0, 60), 5);
        bad(x, "slips", 3, 0);
        bad(x, "slips", -1, 0);
        bad(x, "slips", 0, -1);
        bad(x, "slips", 0, 61);
        bad(x, "slips", HIGH, LOW);
    }

    // ---- promise 22

    private static void note() {
        BorrowedVoice x = new BorrowedVoice();
        bad(x, "note", 0, 0, 0, 0, 0);
        x.one(PLAIN, 5, 5);
        bad(x, "note", 1, 0, 0, 0, 0);
        bad(x, "note", -1, 0, 0, 0, 0);
        bad(x, "note", 0, -1, 0, 0, 0);
        bad(x, "note", 0, 21, 0, 0, 0);
        bad(x, "note", 0, 0, -1, 0, 0);
        bad(x, "note", 0, 0, 100, 0, 0);
        bad(x, "note", 0, 0, 0, -1, 0);
        bad(x, "note", 0, 0, 0, 10, 0);
        bad(x, "note", 0, 0, 0, 0, -1);
        bad(x, "note", 0, 0, 0, 0, 10);
        for (int i = 1; i <= 6; i++) {
            due.is("note", x.note(0, 20, 99, 9, 9), i);
        }
        full(x, "note", 0, 0, 0, 0, 0);
        bad(x, "note", 0, 0, 0, 0, 10);
    }

    // ---- promise 23

    private static void forget() {
        BorrowedVoice x = plain(1);
        due.is("none", x.forget(), 0);
        x.note(0, 0, 0, 9, 9);
        x.note(0, 0, 0, 9, 9);
        due.is("no kind", x.is(0), 0);
        due.is("two", x.forget(), 2);
        due.is("none is left", x.count(4), 0);
        due.is("all kinds again", x.is(0), 63);
        due.is("note behind it", x.note(0, 0, 0, 0, 0), 1);
    }

    // ---- promise 24

    private static void is() {
        BorrowedVoice x = new BorrowedVoice();
        x.one(DOUBLE, 5, 5);
        x.one(DOUBLE, 9, 5);
        due.is("no notes", x.is(0), 63);
        x.note(0, 2, 1, 5, 1);
        due.is("as plain and as one that remembers", x.is(0), 1 << PLAIN | 1 << REMEMBERS);
        due.is("of another nothing is told", x.is(1), 63);
        x.note(0, 3, 0, 5, 1);
        due.is("remembers", x.is(0), 1 << REMEMBERS);
        x.note(0, 3, 0, 5, 0);
        due.is("none", x.is(0), 0);
        x.forget();
        x.note(1, 0, 98, 7, 1);
        due.is("bass or old", x.is(1), 1 << BASS | 1 << OLD);
        x.note(1, 20, 99, 6, 0);
        due.is("old", x.is(1), 1 << OLD);
        x.forget();
        x.note(1, 0, 0, 9, 2);
        due.is("treble, 9 at most", x.is(1), 1 << TREBLE);
        bad(x, "is", 2);
        bad(x, "is", -1);
        bad(x, "is", LOW);
        bad(new BorrowedVoice(), "is", 0);
    }

    // ---- promise 25

    private static void listen() {
        BorrowedVoice x = new BorrowedVoice();
        for (int sort : new int[] {5, 9, 0}) {
            x.one(PLAIN, sort, 5);
        }
        due.is("all are told apart on an odd evening", x.listen(0), 1);
        x.note(0, 0, 0, 3, 1);
        due.is("bass from old", x.listen(0), 1);
        x.note(0, 0, 1, 2, 1);
        due.is("only one is left", x.listen(0), 0);
        x.note(0, 0, 1, 2, 9);
        long before = x.status(0) + x.status(1);
        due.is("no kind", x.listen(0), NONE);
        due.is("which is no refusal", x.status(0) + x.status(1), before);
        x.note(1, 2, 0, 9, 1);
        // PLAIN and REMEMBERS sound and let slip alike with used 2: apart with used 0
        due.is("by what they let slip", x.listen(1), 0);
        x.forget();
        x.note(2, 2, 0, 0, 1);
        // PLAIN, BASS, REMEMBERS, OLD of sort 0 all sound 0: only REMEMBERS is told apart
        due.is("the fewest that are alike", x.is(2), 1 << PLAIN | 1 << BASS | 1 << REMEMBERS | 1 << OLD);
        due.is("the least of like ones", x.listen(2), 0);
        bad(x, "listen", 3);
        bad(x, "listen", -1);
        bad(x, "listen", HIGH);
        bad(new BorrowedVoice(), "listen", 0);
    }

    // ---- promise 26

    private static void whose() {
        BorrowedVoice x = new BorrowedVoice();
        due.is("nobody", x.whose(0), 0);
        x.one(PLAIN, 5, 0);
        x.one(OLD, 8, 0);
        x.one(TREBLE, 4, 0);
        x.one(OLD, 7, 0);
        due.is("6", x.whose(6), 6);
        due.is("5", x.whose(5), 9);
        x.leave(0);
        x.evening(1);
        due.is("6, on an odd evening", x.whose(6), 4);
        due.is("5, one of them at the counter", x.whose(5), 3);
        due.is("9", x.whose(9), 0);
        bad(x, "whose", 10);
        bad(x, "whose", -1);
        bad(x, "whose", LOW);
    }

    // ---- promise 27

    private static void asks() {
        BorrowedVoice x = new BorrowedVoice();
        x.one(PLAIN, 5, 5);
        x.one(PLAIN, 0, 5);
        x.one(PLAIN, 9, 0);
        x.one(PLAIN, 9, 9);
        no(x, "asks", 1, 2, 0);
        x.leave(0);
        // 1 would be 9 - 1 with voice 0 (4 now), 2 would be 4 - 1 (0 now)
        due.is("the lesser number asks", x.asks(1, 2, 0), 1 << 1);
        due.is("the same from the other side", x.asks(2, 1, 0), 1 << 2);
        due.is("whom it helps asks", x.asks(3, 2, 0), 1 << 2);
        // both would rather; the one of the greater number has nothing by asking
        due.is("0, dumb, asks", x.asks(0, 1, 0), 1 << 1);
        due.is("nothing is changed", x.about(0, 2), NONE);
        x = new BorrowedVoice();
        x.one(PLAIN, 5, 5);
        x.one(PLAIN, 4, 5);
        x.one(PLAIN, 5, 5);
        x.leave(0);
        // voice 0 makes 1 fit by 1 more, and asking costs 1
        due.is("as good either way", x.asks(1, 2, 0), 1 << 0 | 1 << 1);
        due.is("from the other side", x.asks(2, 1, 0), 1 << 0 | 1 << 2);
        x.leave(2);
        due.is("a dumb one asks where another may", x.asks(2, 1, 0), 1 << 1 | 1 << 2);
        bad(x, "asks", 1, 1, 0);
        bad(x, "asks", 3, 1, 0);
        bad(x, "asks", 1, 3, 0);
        bad(x, "asks", 1, 2, 3);
        bad(x, "asks", -1, 2, 0);
        bad(x, "asks", 1, -1, 0);
        bad(x, "asks", 1, 2, -1);
        bad(x, "asks", 1, 1, 1);
        no(x, "asks", 0, 2, 1);
        bad(x, "asks", LOW, HIGH, LOW);
    }

    // ---- promise 28

    private static void thieves() {
        BorrowedVoice x = plain(6);
        thievesDue(x, 0, 7, 1, 1);
        thievesDue(x, 1, 7, 0, 1);
        x.leave(0);
        thievesDue(x, 1, 3, 7, 10);
        thievesDue(x, 2, 3, 0, 1);
        arrange(x, NONE, NONE, 2, 3, 4, 5);
        thievesDue(x, 1, 5, 3, 4);
        thievesDue(x, 2, 2, 16, 25);
        arrange(x, NONE, NONE, NONE, NONE, NONE, NONE);
        thievesDue(x, 6, 3, 117649, 1000000);
        thievesDue(x, 1, 3, 999271, 1000000);
        thievesDue(x, 3, 5, 21, 32);
        thievesDue(x, 6, 0, 1, 1);
        thievesDue(x, 1, 10, 0, 1);
        thievesDue(x, 0, 10, 1, 1);
        bad(x, "thieves", -1, 0);
        bad(x, "thieves", 7, 0);
        bad(x, "thieves", 0, -1);
        bad(x, "thieves", 0, 11);
        bad(x, "thieves", HIGH, LOW);
    }

    private static void thievesDue(BorrowedVoice x, int n, int c, long above, long below) {
        String call = "thieves(" + n + ", " + c + ")";
        due.is(call, x.thieves(n, c), 1);
        due.is(call + " above", x.part(0), above);
        due.is(call + " below", x.part(1), below);
    }

    // ---- promise 29

    private static void lents() {
        BorrowedVoice x = new BorrowedVoice();
        no(x, "lents", 0, 0);
        no(x, "lents", 999999, 60);
        bad(x, "lents", -1, 0);
        bad(x, "lents", 1000000, 0);
        bad(x, "lents", 0, -1);
        bad(x, "lents", 0, 61);
        x.one(DOUBLE, 5, 5);
        x.one(REMEMBERS, 5, 5);
        // Two people, so X's bit 16 says who. SEED 0: X is 12345, 1406932606, 654583775, 1449466924,
        // 229283573, 1109335178, 1051550459, 1293799192; by 65536: 0, 21468, 9988, 22117, 3498, 16927,
        // 16045, 19741: one 0, voice 0 (left); 0, 1 (none to leave); 0, 1; 1, 1 (left).
        due.is("none", x.lents(0, 0), 0);
        due.is("with their own nothing slips", x.lents(0, 4), 0);
        arrange(x, 1, NONE);
        // voice 1 is with 0, voice 0 lies: 0 gets the own; 0 gets voice 1 (3); 0 leaves it;
        // 1 gets voice 1
        due.is("one evening", x.lents(0, 1), 0);
        due.is("two", x.lents(0, 2), 3);
        due.is("three", x.lents(0, 3), 3);
        due.is("four", x.lents(0, 4), 3);
        arrange(x, NONE, 0);
        // voice 0 is with 1: 0 has none to leave (4); 0 gets voice 1 (4 and 3); 0 leaves it (4);
        // 1 gets the own
        long before = x.digest();
        due.is("one evening, a double one", x.lents(0, 1), 4);
        due.is("two, a double one", x.lents(0, 2), 11);
        due.is("three, a double one", x.lents(0, 3), 15);
        due.is("four, a double one", x.lents(0, 4), 15);
        due.is("nothing is changed", x.digest(), before);
        bad(x, "lents", LOW, HIGH);
    }

    // ---- promise 30

    private static void part() {
        BorrowedVoice x = plain(1);
        x.leave(0);
        due.is("above at first", x.part(0), 0);
        due.is("below at first", x.part(1), 1);
        x.thieves(1, 4);
        due.is("above", x.part(0), 3);
        due.is("below", x.part(1), 5);
        x.thieves(7, 4);
        due.is("a refusal leaves it", x.part(1), 5);
        bad(x, "part", 2);
        bad(x, "part", -1);
        bad(x, "part", HIGH);
    }

    // ---- promise 31, promise 32

    private static void image() {
        BorrowedVoice x = plain(2);
        bad(x, "image", 2);
        bad(x, "image", -1);
        bad(x, "image", LOW);
        due.is("image", x.image(0), 1);
        no(x, "from", 1);
        x.leave(0);
        due.is("image", x.image(1), 1);
        x.leave(1);
        due.is("from 0", x.from(0), 1);
        due.is("as it was in 0", x.dumb(), 0);
        due.is("from 1", x.from(1), 1);
        due.is("as it was in 1", x.dumb(), 1);
        x.leave(1);
        due.is("over an old image", x.image(0), 1);
        x.counter();
        due.is("from 0 again", x.from(0), 1);
        due.is("as it was then", x.dumb(), 3);
        due.is("people", x.count(0), 2);
    }

    private static void from() {
        BorrowedVoice x = plain(3);
        bad(x, "from", 2);
        bad(x, "from", -1);
        bad(x, "from", HIGH);
        no(x, "from", 0);
        x.note(1, 2, 3, 4, 5);
        arrange(x, 1, NONE, 0);
        x.evening(3);
        long before = x.digest();
        x.image(0);
        for (int i = 0; i < 9; i++) {
            x.evening(1);
        }
        x.forget();
        x.note(2, 0, 0, 0, 0);
        x.one(0, 0, 0);
        due.is("from", x.from(0), 1);
        due.is("all as it was", x.digest(), before);
        due.is("what may be undone", x.count(5), 6);
        due.is("undo", x.undo(), 0);
        due.is("the evening is undone", x.count(3), 0);
        x.undo();
        due.is("a lending is undone", x.dumb(), 6);
        due.is("an image is kept for more than one", x.from(0), 1);
        due.is("all as it was, again", x.digest(), before);
        x.type('c');
        x.thieves(0, 0);
        x.from(5);
        x.from(0);
        due.is("the text stays", x.count(6), 1);
        due.is("the fraction stays", x.part(0), 1);
        due.is("status stays", x.status(0), 4);
    }

    // ---- promise 33

    private static void status() {
        BorrowedVoice x = plain(6);
        due.is("bad", x.status(0), 0);
        due.is("another what", x.status(3), -1);
        due.is("counts as bad", x.status(0), 1);
        due.is("another what below", x.status(-1), -1);
        due.is("counts, too", x.status(0), 2);
        x.of(9, 0);
        due.is("-10 for a bad one counts, too", x.status(0), 3);
        x.undo();
        x.lend(0, 0);
        due.is("no", x.status(1), 2);
        x.one(0, 0, 0);
        due.is("full", x.status(2), 1);
        x.swaps(0);
        x.read();
        due.is("what is no refusal", x.status(0) + x.status(1) + x.status(2), 6);
        x.counter();
        x.worst(0);
        due.is("it stays", x.status(0) + x.status(1) + x.status(2), 6);
    }

    // ---- promise 34

    private static void count() {
        BorrowedVoice x = plain(3);
        arrange(x, 1, 2, NONE);
        x.evening(2);
        x.note(0, 0, 0, 0, 0);
        x.note(0, 0, 0, 0, 0);
        for (int i = 0; i < 9; i++) {
            x.type('a');
        }
        int[] want = {3, 2, 1, 4, 2, 6, 9};
        for (int what = 0; what < want.length; what++) {
            due.is("count(" + what + ")", x.count(what), want[what]);
        }
        bad(x, "count", 7);
        bad(x, "count", -1);
        bad(x, "count", LOW);
    }

    // ---- promise 35

    private static void digest() {
        BorrowedVoice x = new BorrowedVoice();
        due.is("new", x.digest(), digestOf(0, 0, 0, 0, 0, 0, 0, 0, 1));
        x.one(REMEMBERS, 4, 8);
        x.one(TREBLE, 7, 1);
        x.leave(0);
        x.lend(0, 1);
        x.evening(2);
        x.thieves(1, 4);
        x.note(1, 20, 99, 9, 8);
        x.note(0, 1, 2, 3, 4);
        x.type(127);
        due.is("all of it", x.digest(), digestOf(2, 2, 1, 5, 2, 3, 1, 8, 1, REMEMBERS, 4, 1, 2, 5,
                TREBLE, 7, -1, 0, 0, 1, 20, 99, 9, 8, 0, 1, 2, 3, 4, 3, 5));
        due.is("once more", x.digest(), x.digest());
    }

    private static long digestOf(long... row) {
        long h = 1297;
        for (long v : row) {
            h = 31 * h + v;
        }
        return h;
    }
}

import java.math.BigInteger;

/**
 * Sentence by sentence, what the document's Terms and promises say of the least, the most, nobody, those
 * who are dumb, what comes first, what wraps. Refused calls are RefusalsTest's, texts FaultsTest's.
 */
public final class BoundsTest {
    private static final int NONE = BorrowedVoice.NONE;
    private static final int KINDS = 6;
    /** As which sort each kind of sort 0 .. 9 sounds on an even evening; on an odd one. */
    private static final String[] EVEN = {"0123456789", "0001234567", "2345678999", "0123456789", "0001234567",
        "2345678999"};
    private static final String[] ODD = {"0123456789", "0001234567", "2345678999", "0123456789", "0000123456",
        "2345678999"};
    /** How many words each kind lets slip with used 0 .. 4; so many as with 4 ever after. */
    private static final String[] WORDS = {"11100", "11100", "22211", "32111", "11100", "44422"};
    /** Voice 0, a double one, is with 1 since evening 0; now it is evening 990. */
    private static final String ON_990 = "one 5 5 5, one 0 5 5, leave 0, lend 0 1, " + Script.times(33, "evening 30");
    private static final String ALL_DUMB = "leave 0, leave 1, leave 2, leave 3, leave 4, leave 5";

    private static final Due due = new Due("BoundsTest");

    public static void main(String[] args) {
        people();
        sounds();
        words();
        isByNotes();
        used();
        slipped();
        fits();
        lending();
        evenings();
        lastEvening();
        newObject();
        counterCalled();
        textTyped();
        best();
        dumbAndRings();
        own();
        swaps();
        steps();
        worst();
        slips();
        notes();
        listen();
        whose();
        asks();
        thieves();
        fraction();
        lents();
        undone();
        whatIsUndone();
        notUndone();
        images();
        imagesKeepNot();
        counts();
        due.end();
    }

    private static void run(String sentence, String... parts) {
        Script.run(due, sentence, parts);
    }

    private static int figure(String row, int at) {
        return row.charAt(Math.min(at, row.length() - 1)) - '0';
    }

    private static int soundDue(int kind, int sort, int evening) {
        return figure(evening % 2 == 0 ? EVEN[kind] : ODD[kind], sort);
    }

    // ---- Terms, part 1

    private static void people() {
        run("PEOPLE 0 .. 5, as they come, each with a VOICE of the same number",
                "count 0 = 0, one 0 0 0 = 0, one 1 1 1 = 1, one 2 2 2 = 2, one 3 3 3 = 3, one 4 4 4 = 4, one 5 5 5 = 5",
                "count 0 = 6, of 0 1 = 0, about 0 2 = 0, of 5 1 = 5, about 5 2 = 5, one 0 0 0 = -4, count 0 = 6");
        run("a KIND, a SORT (0 .. 9), WANTS (0 .. 9): the least, the most", "one 0 0 0 = 0, one 5 9 9 = 1",
                "about 0 0 = 0, about 0 1 = 0, of 0 0 = 0, about 1 0 = 5, about 1 1 = 9, of 1 0 = 9");
        run("One comes, while others are dumb", "one 0 0 0, leave 0, one 1 1 1 = 1, of 0 1 = -1, of 1 1 = 1");
        run("One comes, on an EVENING", "one 0 0 0, evening 7, one 1 1 1 = 1, count 1 = 7, about 0 3 = 7, about 1 3 = 0");
    }

    private static void sounds() {
        for (int kind = 0; kind < KINDS; kind++) {
            for (int sort = 0; sort <= 9; sort++) {
                String even = "about 0 5 = " + soundDue(kind, sort, 0);
                String odd = "about 0 5 = " + soundDue(kind, sort, 1);
                run("as which SORT it sounds", "one " + kind + " " + sort + " 0", even, "evening 1", odd, "evening 1",
                        even, "leave 0", even, "evening 1", odd);
            }
        }
        run("1 less again on EVENINGS of an odd number, 999", "one 4 9 9, one 4 2 9", Script.times(33, "evening 30"),
                "evening 8, count 1 = 998, about 0 5 = 7, about 1 5 = 0, evening 1, count 1 = 999, about 0 5 = 6",
                "about 1 5 = 0");
    }

    private static void words() {
        for (int kind = 0; kind < KINDS; kind++) {
            StringBuilder calls = new StringBuilder();
            int all = 0;
            for (int u = 0; u <= 30; u++) {
                all += figure(WORDS[kind], u);
                calls.append("about 0 3 = ").append(u).append(", evening 1 = ").append(figure(WORDS[kind], u));
                calls.append(", about 0 4 = ").append(all).append(", ");
            }
            run("how many words it lets slip with USED u", "one " + kind + " 5 5, one 0 5 5, leave 0, lend 0 1",
                    calls.toString(), "leave 1, lend 0 1, evening 1 = " + figure(WORDS[kind], 0));
            run("with its own none, at THE COUNTER none", "one " + kind + " 5 5, one 0 5 5, evening 3 = 0, leave 0",
                    "evening 3 = 0, about 0 4 = 0, lend 0 0, evening 3 = 0, count 3 = 0");
        }
    }

    /** IS, by every NOTE that may be: u and d from end to end, every SORT, every number of words. */
    private static void isByNotes() {
        int[] days = {0, 1, 2, 3, 97, 98, 99};
        for (int sort = 0; sort <= 9; sort++) {
            for (int u = 0; u <= 20; u++) {
                for (int d : days) {
                    oneNote(sort, u, d);
                }
            }
        }
    }

    private static void oneNote(int sort, int u, int d) {
        BorrowedVoice x = Script.after("one 5 " + sort + " 0");
        for (int s = 0; s <= 9; s++) {
            for (int w = 0; w <= 9; w++) {
                int bits = 0;
                for (int kind = 0; kind < KINDS; kind++) {
                    boolean so = soundDue(kind, sort, d) == s && figure(WORDS[kind], u) == w;
                    bits |= so ? 1 << kind : 0;
                }
                x.note(0, u, d, s, w);
                due.is("IS of sort " + sort + " by note " + u + " " + d + " " + s + " " + w, x.is(0), bits);
                x.forget();
            }
        }
    }

    private static void used() {
        run("USED: 0 at THE COUNTER, when it comes to one", "one 0 5 5, one 0 5 5, about 0 3 = 0, evening 2",
                "about 0 3 = 2, leave 0, about 0 3 = 0, evening 3, about 0 3 = 0, about 1 3 = 5, lend 0 1 = 1",
                "about 0 3 = 0, about 1 3 = 0, evening 1, about 0 3 = 1, about 1 3 = 0, lend 1 1 = 0, about 0 3 = 0",
                "evening 30, about 1 3 = 30, leave 1, lend 1 1, about 1 3 = 0");
        run("USED has no most but the EVENINGS", ON_990, "about 0 3 = 990, about 1 3 = 0, evening 30, about 0 3 = 999");
    }

    private static void slipped() {
        run("SLIPPED: of each VOICE all so far", "one 3 5 5, one 2 5 5, one 0 5 5, leave 0, leave 1, lend 0 1",
                "evening 1 = 3, leave 1, evening 1 = 0, about 0 4 = 3, lend 0 1, evening 2 = 5, about 0 4 = 8",
                "lend 1 0, evening 1 = 3, about 0 4 = 9, about 1 4 = 2, leave 1, lend 0 2, evening 1 = 5",
                "about 0 4 = 12, about 1 4 = 4, count 3 = 16, leave 0, leave 2, lend 0 0, lend 1 1, evening 9 = 0",
                "about 0 4 = 12, count 3 = 16");
    }

    private static void fits() {
        for (int sort = 0; sort <= 9; sort++) {
            for (int wants = 0; wants <= 9; wants++) {
                int want = 9 - Math.abs(sort - wants);
                run("FIT: 9 less how far; dumb: 0", "one 0 " + sort + " " + wants, "of 0 2 = " + want,
                        "fit 0 0 = " + want, "worst 1 = " + want, "best -1 = " + want, "leave 0, of 0 2 = 0",
                        "fit 0 0 = " + want, "worst 1 = 0", "best -1 = " + want);
            }
        }
    }

    private static void lending() {
        run("one's own at hand (if any) goes to THE COUNTER; nobody has two", "one 0 1 1, one 0 2 2, one 0 3 3",
                "leave 0 = 0, lend 0 1 = 1, of 1 1 = 0, about 0 2 = 1, about 1 2 = -1, of 0 1 = -1, count 2 = 1",
                "lend 1 0 = -1, count 2 = 0, of 0 1 = 1, about 1 2 = 0, leave 2 = 2, lend 2 1 = 0, about 0 2 = -1",
                "of 1 1 = 2, lend 0 2 = -1, of 2 1 = 0, count 2 = 0, dumb = 0");
        run("lend, what one left, be it another's", "one 0 1 1, one 0 2 2, leave 0, leave 1, lend 0 1 = -1, lend 1 1 = 0",
                "of 1 1 = 1, about 0 2 = -1, lend 0 0 = -1, own = 0");
        run("One leaves the VOICE that one has: which", "one 0 1 1, one 0 2 2, leave 0 = 0, leave 1 = 1, lend 0 1",
                "leave 1 = 0, leave 1 = -3, leave 0 = -3, count 2 = 2");
    }

    private static void evenings() {
        run("EVENINGS have numbers, 0 at first", "count 1 = 0, evening 1 = 0, count 1 = 1, evening 30 = 0, count 1 = 31");
        run("USED of those that are with somebody are 1 more", "one 3 5 5, one 3 5 5, one 3 5 5, leave 0, leave 1",
                "lend 0 1, evening 1 = 3, about 0 3 = 1, about 1 3 = 0, about 2 3 = 1, about 0 4 = 3, about 1 4 = 0",
                "about 2 4 = 0, count 1 = 1, count 3 = 3");
        run("n EVENINGS (1 .. 30): the most", "one 5 5 5, one 3 5 5, leave 0, lend 0 1, lend 1 0, evening 30 = 99",
                "about 0 4 = 66, about 1 4 = 33, about 0 3 = 30, count 1 = 30, undo = 0, evening 29 = 96");
        run("evening, nobody is there", "evening 30 = 0, count 1 = 30, count 5 = 1, undo = 0, undo = -3");
        run("evening, all are dumb", Script.SIX, "leave 1, leave 2, leave 3, leave 4, leave 5, dumb = 63, count 2 = 6",
                "evening 30 = 0, count 1 = 33, about 0 3 = 0, about 5 3 = 0, count 3 = 3");
    }

    private static void lastEvening() {
        run("EVENINGS (999 at most); on 999 none does", ON_990, "count 1 = 990, about 0 4 = 1986, evening 30 = 18",
                "count 1 = 999, about 0 3 = 999, about 0 4 = 2004, evening 1 = 0, evening 30 = 0, count 1 = 999",
                "about 0 3 = 999, about 0 4 = 2004, count 3 = 2004, status 0 = 0, status 1 = 0, status 2 = 0");
        run("up to 999", ON_990, "evening 8 = 16, count 1 = 998, evening 1 = 2, count 1 = 999, evening 1 = 0");
        run("998 and two", ON_990, "evening 8 = 16, evening 2 = 2, count 1 = 999, undo = 998, about 0 3 = 998");
        run("undone from 999", ON_990, "evening 30 = 18, undo = 990, about 0 3 = 990, about 0 4 = 1986, evening 9 = 18");
        run("on 999 it is still one that may be undone", ON_990, "evening 9, one 0 0 0 = 2, count 5 = 0",
                "evening 1 = 0, count 5 = 1, undo = 999, count 5 = 0, undo = -3");
        run("on 999 voices are lent, left", ON_990, "evening 9, leave 1 = 0, lend 1 0 = -1, lend 0 1 = -1, of 1 1 = 0",
                "about 0 3 = 0, count 1 = 999, evening 1 = 0, about 0 3 = 0, about 0 4 = 2004");
        run("counter on 999", ON_990, "evening 9, counter = 2, count 1 = 0, evening 1 = 0, count 1 = 1");
    }

    // ---- promises 1 to 6

    private static void newObject() {
        run("A new object: nobody is there", "count 0 = 0, count 1 = 0, count 2 = 0, count 3 = 0, count 4 = 0, count 5 = 0",
                "count 6 = 0, part 0 = 0, part 1 = 1, status 0 = 0, status 1 = 0, status 2 = 0, dumb = 0, own = 0",
                "swaps -1 = 0, swaps 0 = -5, steps = 0, best -1 = 0, worst 0 = -1, worst 1 = -1, whose 0 = 0, whose 9 = 0",
                "forget = 0, clear = 0, counter = 0, read = -10, from 0 = -3, from 1 = -3, undo = -3, lents 0 0 = -3");
    }

    private static void counterCalled() {
        run("counter: all as at first (but for IMAGES, THE TEXT, THE FRACTION, STATUS)", Script.RICH,
                "leave 9 = -2, leave 0 = -3, counter = 4, count 0 = 0, count 1 = 0, count 2 = 0, count 3 = 0, count 4 = 0",
                "count 5 = 0, count 6 = 26, part 0 = 91, part 1 = 100, status 0 = 1, status 1 = 1, undo = -3, counter = 0",
                "from 0 = 1, count 0 = 4, count 1 = 3, from 1 = 1, count 1 = 5, counter = 4, read = 3");
        run("those who come behind it", "one 3 5 5, one 3 5 5, leave 0, leave 1, lend 0 1, lend 1 0, evening 2 = 10",
                "note 0 0 0 0 0, counter = 2, one 0 1 1 = 0, about 0 2 = 0, about 0 3 = 0, about 0 4 = 0, about 0 5 = 1",
                "one 1 2 2 = 1, about 1 2 = 1, about 1 3 = 0, about 1 4 = 0, count 3 = 0, is 0 = 63, dumb = 0");
        run("how many PEOPLE there were: 6", Script.times(6, "one 0 0 0"), "counter = 6, one 0 0 0 = 0");
    }

    private static void textTyped() {
        run("A byte (0 .. 127): the least, the most", "type 0 = 1, type 127 = 2, count 6 = 2, clear = 2, count 6 = 0");
        StringBuilder all = new StringBuilder();
        for (int i = 1; i <= 150; i++) {
            all.append("type ").append(i % 128).append(" = ").append(i).append(", ");
        }
        run("a TEXT (150 bytes at most)", all.toString(), "type 59 = -4, count 6 = 150, status 2 = 1, clear = 150",
                "clear = 0, type 59 = 1");
    }

    // ---- Terms, part 2; promises 14 to 21

    private static void best() {
        run("BEST: nobody", "best -1 = 0, best 0 = -10");
        run("BEST: one, not fit at all", "one 0 0 9, best -1 = 0, best 0 = 0, leave 0, best -1 = 0, best 0 = 0");
        run("the first such way (rising)", "one 0 0 9, one 0 9 0, one 0 9 9, best -1 = 27, best 0 = 1, best 1 = 0, best 2 = 2");
        run("all ways alike", Script.times(6, "one 0 4 6"), ALL_DUMB, "best -1 = 42, best 0 = 0, best 1 = 1, best 2 = 2",
                "best 3 = 3, best 4 = 4, best 5 = 5, dumb = 63");
        run("the last way of all", "one 0 0 9, one 0 1 8, one 0 2 7, one 0 7 2, one 0 8 1, one 0 9 0, best -1 = 54",
                "best 0 = 5, best 1 = 4, best 2 = 3, best 3 = 2, best 4 = 1, best 5 = 0");
        run("behind a larger COUNTER", Script.times(6, "one 0 4 4"), "best -1 = 54, counter, one 0 4 4, best -1 = 9",
                "one 0 4 4, one 0 4 4, best -1 = 27, best 2 = 2");
        run("on this EVENING", "one 4 9 6, one 0 6 7, best -1 = 18, best 0 = 1, evening 1, best -1 = 17, best 0 = 0");
    }

    private static void dumbAndRings() {
        run("DUMB: PEOPLE (bits) who have none", Script.times(6, "one 0 0 0"), "dumb = 0, leave 5, dumb = 32, leave 0",
                "dumb = 33, lend 5 0, dumb = 32, leave 0,", ALL_DUMB, "dumb = 63, ring 0 = 0, ring 5 = 0, own = 6");
        run("RING 0: it comes to one who is dumb", "one 0 0 0, one 0 0 0, one 0 0 0, ring 0 = 1, leave 0, ring 0 = 0",
                "lend 0 1, ring 1 = 0, ring 0 = 0, ring 2 = 1, lend 1 2, ring 2 = 0, lend 2 0, ring 0 = 3, ring 1 = 3",
                "ring 2 = 3");
        run("RING of two, of all", Script.times(6, "one 0 0 0"), "leave 0, lend 0 1, lend 1 0, ring 0 = 2, ring 1 = 2",
                "ring 2 = 1,", ALL_DUMB, "lend 1 0, lend 2 1, lend 3 2, lend 4 3, lend 5 4, ring 0 = 0, lend 0 5",
                "ring 0 = 6, ring 3 = 6, ring 5 = 6");
    }

    private static void own() {
        run("OWN AGAIN: nobody; all have it; all are dumb", "own = 0,", Script.times(6, "one 0 0 0"), "own = 0,", ALL_DUMB,
                "own = 6");
        run("one more for each ring of two or more", Script.times(6, "one 0 0 0"), "leave 0, own = 1, lend 0 1, own = 2",
                "lend 1 0, own = 3, leave 2, lend 2 3, lend 3 2, own = 6, leave 4, lend 4 5, own = 8, lend 5 4, own = 9");
        run("one ring of all", Script.times(6, "one 0 0 0"), ALL_DUMB,
                "lend 1 0, lend 2 1, lend 3 2, lend 4 3, lend 5 4, own = 6, lend 0 5, own = 7");
    }

    private static void swaps() {
        run("SWAPS: nobody", "swaps -1 = 0, swaps 0 = -5, swaps 2147483647 = -5");
        run("the k-th (10 i and j), -5: not so many", "one 0 9 0, one 0 9 0, one 0 9 0, one 0 0 9, one 0 0 9, one 0 0 9",
                "swaps -1 = 9, swaps 0 = 3, swaps 1 = 4, swaps 2 = 5, swaps 3 = 13, swaps 7 = 24, swaps 8 = 25",
                "swaps 9 = -5, swaps 2147483647 = -5, status 0 = 0, status 1 = 0, status 2 = 0");
        run("PEOPLE who have VOICES: i is dumb", "one 0 9 0, one 0 0 9, leave 0, swaps -1 = 0, swaps 0 = -5, steps = 0");
        run("PEOPLE who have VOICES: j is dumb", "one 0 9 0, one 0 0 9, leave 1, swaps -1 = 0, swaps 0 = -5, steps = 0");
        run("all are dumb", Script.SIX, "leave 1, leave 2, leave 3, leave 4, leave 5, swaps -1 = 0, swaps 0 = -5, steps = 0");
        run("more FIT, not as FIT: i", "one 0 4 5, one 0 6 4, swaps -1 = 0, swaps 0 = -5, steps = 0");
        run("more FIT, not as FIT: j", "one 0 6 4, one 0 4 5, swaps -1 = 0, swaps 0 = -5, steps = 0");
        run("more FIT by 1 each", "one 0 4 5, one 0 5 4, swaps -1 = 1, swaps 0 = 1, steps = 1");
        run("the last pair alone", "one 0 5 5, one 0 5 5, one 0 5 5, one 0 5 5, one 0 9 0, one 0 0 9, swaps -1 = 1",
                "swaps 0 = 45, swaps 1 = -5, steps = 1");
    }

    private static void steps() {
        run("STEPS: nobody, one", "steps = 0, one 0 9 0, steps = 0");
        run("till there is none", "one 0 9 0, one 0 0 9, one 0 2 2, steps = 1, swaps -1 = 1");
        // sounds 9 5 1 for wants 1 9 5: 0 and 2 are no pair (2 would be as fit); 0 and 1 swap (5 9 1), then 0 and 2
        run("a SWAP that only another one makes", "one 0 9 1, one 0 5 9, one 0 1 5, swaps -1 = 1, swaps 0 = 1, steps = 2");
        run("none from the first", "one 0 7 7, one 0 3 3, one 0 9 9, steps = 0");
    }

    private static void worst() {
        run("WORST: none: nobody is there", "worst 0 = -1, worst 1 = -1, status 0 = 0, status 1 = 0, one 0 5 5, worst 0 = 0");
        run("of like ones the first", "one 0 5 5, one 0 3 5, one 0 7 5, one 0 5 5, worst 0 = 1, worst 1 = 7");
        run("the least, not the last that is other", "one 0 3 5, one 0 5 5, worst 0 = 0, worst 1 = 7");
        run("the last one", "one 0 5 5, one 0 4 5, one 0 3 5, worst 0 = 2, worst 1 = 7");
        run("one who is dumb as one who is FIT by 0", "one 0 0 9, one 0 5 5, leave 1, worst 0 = 0, worst 1 = 0, leave 0",
                "lend 1 1, worst 0 = 0, worst 1 = 0");
        run("all who are dumb", "one 0 5 5, one 0 5 5, leave 1, worst 0 = 1, leave 0, worst 0 = 0, worst 1 = 0");
    }

    private static void slips() {
        run("SLIPS: m (0 .. 60), the least, the most", "one 3 5 5, one 5 5 5, leave 0, lend 0 1, lend 1 0, slips 0 0 = 0",
                "slips 0 1 = 3, slips 0 60 = 63, slips 1 0 = 0, slips 1 3 = 12, slips 1 4 = 14, slips 1 60 = 126",
                "evening 2, slips 0 0 = 5, slips 0 1 = 6, slips 1 60 = 130");
        run("at THE COUNTER, with its own", "one 3 5 5, one 0 5 5, slips 0 60 = 0, leave 0, slips 0 60 = 0, lend 0 1",
                "evening 1, leave 1, slips 0 60 = 3, lend 0 0, slips 0 60 = 3, slips 0 0 = 3");
        run("beyond 999, too", ON_990, "slips 0 60 = 2106, evening 30, count 1 = 999, slips 0 0 = 2004, slips 0 1 = 2006",
                "slips 0 60 = 2124, slips 1 60 = 0");
    }

    // ---- promises 22 to 27

    private static void notes() {
        run("NOTES 0 .. 5, as they come", "one 0 5 5, note 0 0 0 5 1 = 1, note 0 20 99 9 9 = 2, note 0 0 0 0 0 = 3",
                "note 0 1 1 1 1 = 4, note 0 2 2 2 2 = 5, note 0 3 3 3 3 = 6, note 0 0 0 0 0 = -4, count 4 = 6, forget = 6",
                "count 4 = 0, forget = 0, note 0 0 0 5 1 = 1, is 0 = 1");
        run("all NOTES of it are so: the first of 6", "one 0 5 5, one 0 5 5, note 0 0 0 9 9,", Script.times(5, "note 1 0 0 5 1"),
                "is 0 = 0, is 1 = 1");
        run("all NOTES of it are so: the last of 6", "one 0 5 5, one 0 5 5,", Script.times(5, "note 1 0 0 5 1"),
                "note 0 0 0 9 9 = 6, is 0 = 0, is 1 = 1");
        run("IS: no NOTES of it", "one 0 5 5, is 0 = 63, one 0 5 5, note 1 0 0 9 9, is 0 = 63, is 1 = 0");
        run("IS takes no look at the KIND, the EVENING, who has it", "one 5 5 5, evening 3, leave 0, note 0 0 0 5 1 = 1",
                "is 0 = 1, evening 1, is 0 = 1");
    }

    private static void listen() {
        run("LISTEN: none: no KIND", "one 0 5 5, note 0 0 0 9 9, is 0 = 0, listen 0 = -1, status 0 = 0, status 1 = 0");
        run("all KINDS, told apart on an odd EVENING", "one 0 5 5, listen 0 = 1, one 0 3 5, listen 1 = 1");
        run("of like ones the least: SORT 0 .. 2, where OLD is as BASS", "one 0 0 5, one 0 1 5, one 0 2 5, listen 0 = 0",
                "listen 1 = 0, listen 2 = 0");
        run("SORT 9", "one 0 9 5, listen 0 = 1");
        run("one KIND alone: the least of all", "one 0 5 5, note 0 3 0 5 1, is 0 = 8, listen 0 = 0");
        run("BASS and OLD", "one 0 5 5, note 0 0 0 3 1, is 0 = 18, listen 0 = 1, note 0 0 1 3 1, is 0 = 2, listen 0 = 0");
        run("by words alone", "one 0 5 5, note 0 2 0 5 1, is 0 = 9, listen 0 = 0");
    }

    private static void whose() {
        run("WHOSE: SORT s (0 .. 9), the least, the most", "whose 0 = 0, whose 9 = 0, one 0 0 5, one 2 9 5, one 1 1 5",
                "one 4 2 5, one 4 3 5, one 5 7 5, whose 0 = 13, whose 9 = 34, whose 1 = 16, evening 1, whose 0 = 29",
                "whose 1 = 0, leave 0, leave 1, whose 0 = 29, whose 9 = 34");
    }

    private static void asks() {
        // voice 0 lies there; 1 and 2 have what they want
        run("COUNTER: neither", "one 0 0 0, one 0 9 9, one 0 9 9, leave 0, asks 1 2 0 = 1, asks 2 1 0 = 1");
        // both would be FIT by 9, and have 0: the one of the lesser number has it
        run("if both ask, the one of the lesser number has it", "one 0 5 5, one 0 5 5, one 0 5 5, leave 0, leave 1, leave 2",
                "asks 0 1 0 = 2, asks 1 0 0 = 4, asks 1 2 0 = 2, asks 2 1 0 = 4, asks 2 0 1 = 4");
        run("less 1, if one asked: as much either way", "one 0 0 8, one 0 5 5, leave 0, of 0 2 = 0, fit 0 0 = 1",
                "asks 0 1 0 = 3, asks 1 0 0 = 5");
        run("less 1, if one asked: no more", "one 0 0 9, one 0 5 5, leave 0, fit 0 0 = 0, asks 0 1 0 = 1, asks 1 0 0 = 1");
        // 0 gets as much either way; 1 gets more, if 0 does not ask
        run("two pairs rest", "one 0 0 8, one 0 5 0, leave 0, leave 1, asks 0 1 0 = 6, asks 1 0 0 = 6");
        // both get as much either way: who asks in vain would rather not
        run("three pairs rest", "one 0 0 8, one 0 5 8, leave 0, leave 1, asks 0 1 0 = 7, asks 1 0 0 = 7");
    }

    // ---- promises 28 to 30

    private static void thieves() {
        for (int lying = 0; lying <= 6; lying++) {
            for (int n = 0; n <= 6; n++) {
                for (int c = 0; c <= 10; c++) {
                    thieves(lying, n, c);
                }
            }
        }
        run("THIEVES, nobody is there", "thieves 0 10 = 1, part 0 = 1, part 1 = 1, thieves 1 0 = 1, part 0 = 0, part 1 = 1");
    }

    /** Each set of voices that may be left has its chance. */
    private static void thieves(int lying, int n, int c) {
        long top = 0;
        long bottom = 1;
        for (int i = 0; i < lying; i++) {
            bottom *= 10;
        }
        for (int left = 0; left < 1 << lying; left++) {
            long chance = 1;
            for (int v = 0; v < lying; v++) {
                chance *= (left >> v & 1) == 1 ? 10 - c : c;
            }
            top += Integer.bitCount(left) >= n ? chance : 0;
        }
        long divisor = BigInteger.valueOf(top).gcd(BigInteger.valueOf(bottom)).longValueExact();
        BorrowedVoice x = Script.after(Script.times(6, "one 0 0 0"));
        for (int p = 0; p < lying; p++) {
            x.leave(p);
        }
        String what = "THIEVES of " + lying + " by " + n + ", " + c;
        due.is(what, x.thieves(n, c), 1);
        due.is(what + ", above", x.part(0), top / divisor);
        due.is(what + ", below", x.part(1), bottom / divisor);
    }

    private static void fraction() {
        run("THE FRACTION is 0 by 1 at first; lowest terms, below above 0", "part 0 = 0, part 1 = 1, one 0 0 0, leave 0",
                "thieves 1 5, part 0 = 1, part 1 = 2, thieves 1 10, part 0 = 0, part 1 = 1, thieves 1 0, part 0 = 1",
                "part 1 = 1, thieves 1 8, part 0 = 1, part 1 = 5, undo = 0, part 1 = 5, thieves 7 8 = -2, part 1 = 5",
                "lend 0 0, evening 1, counter, part 0 = 1, part 1 = 5");
    }

    private static void lents() {
        int[] seeds = {0, 1, 2, 12345, 65535, 65536, 499999, 500000, 999998, 999999};
        String house = "";
        for (int people = 1; people <= 6; people++) {
            house += "one " + people % KINDS + " 5 5, ";
            for (int seed : seeds) {
                for (int n : new int[] {0, 1, 2, 59, 60}) {
                    lents(house, seed, n);
                }
            }
        }
        lents("one 5 5 5, one 3 5 5, one 0 5 5, leave 0, leave 1, leave 2", 7, 60);
        lents(Script.RICH, 999999, 60);
        lents(Script.SIX, 999999, 60);
        String swapped = "one 5 5 5, one 3 5 5, leave 0, lend 0 1, lend 1 0, ";
        for (int evenings : new int[] {7, 8, 9, 0}) {
            lents(swapped + Script.times(33, "evening 30") + (evenings == 0 ? "" : ", evening " + evenings), 31, 40);
        }
        run("on 999 none", swapped, Script.times(34, "evening 30"), "lents 31 60 = 0, lents 0 1 = 0, count 1 = 999");
        run("one alone: with its own nothing slips", "one 5 5 5, lents 0 60 = 0, lents 999999 60 = 0, of 0 1 = 0");
    }

    /** The same by the calls themselves, X by whole numbers of any size. */
    private static void lents(String house, int seed, int n) {
        BorrowedVoice x = Script.after(house);
        BorrowedVoice byHand = Script.after(house);
        BigInteger[] at = {BigInteger.valueOf(seed)};
        int people = byHand.count(0);
        int words = 0;
        for (int i = 0; i < n; i++) {
            int p = drawn(at, people);
            int v = drawn(at, people);
            if (byHand.about(v, 2) == NONE) {
                byHand.lend(v, p);
            } else {
                byHand.leave(p);
            }
            words += byHand.evening(1);
        }
        due.is("LENTS " + seed + " " + n + " behind " + house, x.lents(seed, n), words);
    }

    private static int drawn(BigInteger[] at, int people) {
        at[0] = at[0].multiply(new BigInteger("1103515245")).add(new BigInteger("12345")).mod(new BigInteger("2147483648"));
        return at[0].divide(new BigInteger("65536")).mod(BigInteger.valueOf(people)).intValueExact();
    }

    // ---- UNDO

    private static void undone() {
        String nine = "one 0 5 5, one 0 5 5, evening 1, evening 2, evening 3, evening 4, evening 5, evening 6, evening 7, "
                + "evening 8";
        run("8 at most: 8", nine, "count 5 = 8, undo = 28, undo = 21, undo = 15, undo = 10, undo = 6, undo = 3, undo = 1",
                "count 5 = 1, undo = 0, count 5 = 0, undo = -3, count 1 = 0, status 1 = 1");
        run("8 at most: the 9th", nine, "evening 9, count 5 = 8, undo = 36, undo = 28, undo = 21, undo = 15, undo = 10",
                "undo = 6, undo = 3, undo = 1, count 5 = 0, undo = -3, count 1 = 1, about 0 3 = 1");
        run("8 at most: a 17th", nine, "evening 9,", nine.substring(nine.indexOf("evening")), "count 5 = 8, undo = 73",
                "undo = 66, undo = 60, undo = 55, undo = 51, undo = 48, undo = 46, undo = 45, undo = -3, count 1 = 45");
        run("undone, then others", nine, "undo = 28, undo = 21, leave 0, leave 1, lend 0 1, count 5 = 8, undo = 21, dumb = 3",
                "undo = 21, dumb = 1, undo = 21, dumb = 0, undo = 15, undo = 10, undo = 6, undo = 3, undo = 1, undo = -3");
        run("together one that may be undone", "one 0 5 5, evening 30, evening 30, count 5 = 2, undo = 30, undo = 0");
    }

    private static void whatIsUndone() {
        run("where VOICES are, USED, SLIPPED, the EVENING", "one 3 5 5, one 5 5 5, one 0 5 5, evening 4, leave 0, lend 0 1",
                "evening 2 = 5, lend 1 2, evening 3 = 15, about 0 4 = 8, about 1 4 = 12, about 0 3 = 5, undo = 6",
                "about 0 4 = 5, about 1 4 = 0, about 0 3 = 2, about 1 3 = 0, of 2 1 = 1, undo = 6, of 2 1 = 2, about 2 3 = 6",
                "about 1 2 = -1, undo = 4, about 0 3 = 0, about 0 4 = 0, about 2 3 = 4, undo = 4, of 1 1 = 1, about 1 3 = 4",
                "about 0 2 = -1, undo = 4, about 0 2 = 0, about 0 3 = 4, undo = 0, about 0 3 = 0, undo = -3");
        run("a VOICE lent, left: each is one", "one 0 5 5, leave 0, count 5 = 1, lend 0 0, count 5 = 2, leave 0, count 5 = 3",
                "undo = 0, of 0 1 = 0, undo = 0, of 0 1 = -1, undo = 0, of 0 1 = 0, undo = -3");
        run("behind one that comes none may be", "one 0 5 5, evening 2, leave 0, count 5 = 2, one 0 5 5 = 1, count 5 = 0",
                "undo = -3, count 1 = 2, dumb = 1, lend 0 0, count 5 = 1, undo = 2, dumb = 1");
        run("behind a refused one it may", "one 0 5 5, evening 2, one 6 0 0 = -2, count 5 = 1, undo = 0");
        run("behind a 7th one it may", Script.times(6, "one 0 5 5"), "evening 2, one 0 0 0 = -4, count 5 = 1, undo = 0");
    }

    private static void notUndone() {
        run("NOTES, THE TEXT, THE FRACTION, STATUS, IMAGES are not undone", "one 0 5 5, leave 0, note 0 0 0 9 9, type 65",
                "thieves 1 3, image 0, leave 9 = -2, count 5 = 1, undo = 0, count 4 = 1, is 0 = 0, count 6 = 1, part 0 = 7",
                "part 1 = 10, status 0 = 1, from 0 = 1, dumb = 1, undo = 0, forget = 1, leave 0, undo = 0, count 4 = 0");
        run("what is refused is none that may be undone", "one 0 5 5, lend 0 0 = -3, lend 1 0 = -10, leave 1 = -2",
                "evening 0 = -2, evening 31 = -2, count 5 = 0, leave 0, leave 0 = -3, count 5 = 1");
        run("what changes no place is none", "one 0 5 5, note 0 0 0 0 0, forget, type 65, clear, thieves 0 0, image 0",
                "lents 5 60, steps, best -1, read = -10, count 5 = 0, from 0, count 5 = 0");
    }

    // ---- IMAGES; promise 34

    private static void images() {
        run("IMAGES keep NOTES: the last of 6", "one 0 5 5,", Script.times(5, "note 0 0 0 5 1"), "note 0 0 0 9 9, image 0",
                "forget = 6,", Script.times(6, "note 0 0 0 5 1"), "is 0 = 1, from 0 = 1, count 4 = 6, is 0 = 0");
        run("IMAGES 0, 1 keep all", Script.SIX, Script.times(5, "note 1 2 3 4 5"), "image 1 = 1, counter = 6, from 1 = 1",
                "count 0 = 6, count 1 = 3, count 2 = 1, count 3 = 3, count 4 = 6, count 5 = 4, note 0 0 0 0 0 = -4",
                "is 0 = 1, is 1 = 0, about 5 0 = 5, about 4 1 = 9, of 4 0 = 0, about 0 2 = 1, about 0 3 = 3, about 0 4 = 3");
        sameFrom(Script.RICH);
        sameFrom(Script.SIX + ", " + Script.times(5, "note 5 20 99 9 9") + ", " + Script.times(9, "evening 2"));
        sameFrom(ON_990 + ", evening 30");
        run("what may be undone they keep", "one 0 5 5, evening 3, leave 0, image 0, undo, undo, undo = -3, from 0 = 1",
                "count 5 = 2, undo = 3, dumb = 0, undo = 0, undo = -3, from 0 = 1, dumb = 1, undo = 3, from 0 = 1, count 5 = 2");
        run("one kept of nobody", "image 0 = 1, one 0 5 5, evening 2, from 0 = 1, count 0 = 0, count 1 = 0, count 5 = 0");
        run("it goes on from one, which stays as it was", "one 0 5 5, image 1, leave 0, evening 4, from 1 = 1, count 1 = 0",
                "leave 0, one 0 6 6, from 1 = 1, count 0 = 1, dumb = 0, from 1 = 1, dumb = 0");
        run("kept anew", "one 0 5 5, image 0, image 1, leave 0, image 0 = 1, lend 0 0, from 0 = 1, dumb = 1, from 1 = 1",
                "dumb = 0");
    }

    /** All that an image keeps comes back, though every row of it was written over between. */
    private static void sameFrom(String house) {
        String kept = house + ", image 1";
        String other = ", forget, counter, one 5 1 8, one 4 2 7, one 3 3 6, one 2 4 5, one 1 5 4, one 0 6 3, "
                + Script.times(6, "note 5 7 7 7 7") + ", " + ALL_DUMB + ", lend 5 0, lend 4 1, lend 3 2, lend 2 3, "
                + "lend 1 4, lend 0 5, " + Script.times(8, "evening 7") + ", from 1";
        BorrowedVoice x = Script.after(kept + other);
        BorrowedVoice twin = Script.after(kept);
        due.is("all as it was from an IMAGE behind " + house, x.digest(), twin.digest());
        for (int i = 0; i < 9; i++) {
            due.is("undone from an IMAGE", x.undo(), twin.undo());
            due.is("as it was then, from an IMAGE", x.digest(), twin.digest());
        }
    }

    private static void imagesKeepNot() {
        run("all but IMAGES", "one 0 5 5, image 0, leave 0, image 1, from 0 = 1, from 1 = 1, dumb = 1, from 0 = 1, dumb = 0");
        run("all but THE TEXT", "one 0 5 5, type 65, image 0, type 66, type 67, from 0 = 1, count 6 = 3, clear, from 0 = 1",
                "count 6 = 0");
        run("all but THE FRACTION", "one 0 5 5, leave 0, image 0, thieves 1 3, from 0 = 1, part 0 = 7, part 1 = 10");
        run("all but STATUS", "one 0 5 5, image 0, leave 9 = -2, leave 0, leave 0 = -3, from 0 = 1, status 0 = 1, status 1 = 1");
    }

    private static void counts() {
        run("count: 0 PEOPLE, 1 the EVENING, 2 VOICES at THE COUNTER, 3 words, 4 NOTES, 5 undone, 6 bytes", Script.RICH,
                "count 0 = 4, count 1 = 7, count 2 = 2, count 3 = 6, count 4 = 2, count 5 = 7, count 6 = 26");
        run("the most of each", ON_990, "evening 30, counter,", Script.times(6, "one 3 0 0"), ALL_DUMB,
                Script.times(6, "note 0 0 0 0 0"), "evening 1, evening 1, evening 1, count 0 = 6, count 1 = 3, count 2 = 6",
                "count 3 = 0, count 4 = 6, count 5 = 8, count 6 = 0");
    }
}

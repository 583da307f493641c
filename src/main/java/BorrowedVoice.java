/** A counter where voices are lent by the evening; README.md says how it is used. */
public final class BorrowedVoice {
    public static final int NONE = -1, BAD = -2, NO = -3, FULL = -4;

    private static final int MOST_PEOPLE = 6;
    private static final int MOST_NOTES = 6;
    private static final int MOST_UNDOS = 8;
    private static final int MOST_BYTES = 150;
    private static final int MOST_STEPS = 60;
    private static final int LAST_EVENING = 999;
    private static final int HIGHEST_SORT = 9;

    /** BAD, where -2 would be too near to what the call may answer. */
    private static final int BAD_BY_TEN = -10;
    private static final int NOT_SO_MANY = -5;

    private final House house = new House();
    /** Where a text is read and what-ifs are played, so that the house itself stays. */
    private final House trial = new House();
    private final House firstImage = new House();
    private final House secondImage = new House();
    private boolean firstKept = false;
    private boolean secondKept = false;

    private final Reader reader = new Reader();

    /** For each set of voices given away: the most that the people still without one can be fit. */
    private final int[] bestRest = new int[1 << MOST_PEOPLE];
    /** For each such set: the voice that the next one has then. */
    private final int[] bestNext = new int[1 << MOST_PEOPLE];

    private long above = 0;
    private long below = 1;

    private int bads = 0;
    private int nos = 0;
    private int fulls = 0;

    public BorrowedVoice() {
    }

    // ---- a counter

    public int counter() {
        int were = house.people;
        house.empty();
        return were;
    }

    public int one(int kind, int sort, int wants) {
        if (!within(kind, 0, Kinds.HOW_MANY - 1) || !isSort(sort) || !isSort(wants)) {
            return bad();
        }
        if (house.people >= MOST_PEOPLE) {
            return full();
        }
        return house.welcome(kind, sort, wants);
    }

    public int type(int c) {
        if (!within(c, 0, 127)) {
            return bad();
        }
        if (reader.length >= MOST_BYTES) {
            return full();
        }
        return reader.append(c);
    }

    public int clear() {
        int had = reader.length;
        reader.length = 0;
        return had;
    }

    public int read() {
        int items = reader.readInto(trial);
        if (items > 0) {
            house.becomeLike(trial);
        }
        return items;
    }

    // ---- evenings

    public int lend(int v, int p) {
        if (!isThere(v) || !isThere(p)) {
            return badByTen();
        }
        if (house.holder[v] != NONE) {
            return no();
        }
        house.keepPast();
        return house.give(v, p);
    }

    public int leave(int p) {
        if (!isThere(p)) {
            return bad();
        }
        int v = house.voiceWith(p);
        if (v == NONE) {
            return no();
        }
        house.keepPast();
        house.putDown(v);
        return v;
    }

    public int evening(int n) {
        if (!within(n, 1, 30)) {
            return bad();
        }
        house.keepPast();
        int words = 0;
        for (int i = 0; i < n; i++) {
            words += house.goOneEvening();
        }
        return words;
    }

    public int undo() {
        if (house.undos == 0) {
            return no();
        }
        house.goBack();
        return house.evening;
    }

    public int of(int p, int what) {
        if (!isThere(p) || !within(what, 0, 2)) {
            return badByTen();
        }
        switch (what) {
            case 0: return house.wants[p];
            case 1: return house.voiceWith(p);
            default: return house.fitNow(p);
        }
    }

    public int about(int v, int what) {
        if (!isThere(v) || !within(what, 0, 5)) {
            return badByTen();
        }
        switch (what) {
            case 0: return house.kind[v];
            case 1: return house.sort[v];
            case 2: return house.holder[v];
            case 3: return house.used[v];
            case 4: return house.slipped[v];
            default: return house.soundOf(v);
        }
    }

    // ---- who speaks how

    public int fit(int p, int v) {
        if (!isThere(p) || !isThere(v)) {
            return bad();
        }
        return house.fitWith(p, v);
    }

    public int best(int p) {
        if (p != NONE && !isThere(p)) {
            return badByTen();
        }
        findBest();
        return p == NONE ? bestRest[0] : bestVoiceOf(p);
    }

    public int dumb() {
        int bits = 0;
        for (int p = 0; p < house.people; p++) {
            if (house.voiceWith(p) == NONE) {
                bits |= 1 << p;
            }
        }
        return bits;
    }

    public int own() {
        int moves = house.ringsOfTwoOrMore();
        for (int v = 0; v < house.people; v++) {
            if (house.holder[v] != v) {
                moves++;
            }
        }
        return moves;
    }

    public int ring(int p) {
        if (!isThere(p)) {
            return bad();
        }
        return house.ringFrom(p);
    }

    public int swaps(int k) {
        if (k < NONE) {
            return badByTen();
        }
        if (k == NONE) {
            return house.howManySwaps();
        }
        int pair = house.swapAt(k);
        return pair == NONE ? NOT_SO_MANY : pair;
    }

    public int steps() {
        trial.becomeLike(house);
        int done = 0;
        for (int i = 0; i < MOST_STEPS; i++) {
            int pair = trial.swapAt(0);
            if (pair == NONE) {
                break;
            }
            trial.exchange(pair / 10, pair % 10);
            done++;
        }
        return done;
    }

    public int worst(int what) {
        if (!within(what, 0, 1)) {
            return bad();
        }
        int who = house.leastFit();
        if (who == NONE || what == 0) {
            return who;
        }
        return house.fitNow(who);
    }

    public int slips(int v, int m) {
        if (!isThere(v) || !within(m, 0, 60)) {
            return bad();
        }
        int words = house.slipped[v];
        if (house.isWithAnother(v)) {
            for (int i = 0; i < m; i++) {
                words += Kinds.wordsOf(house.kind[v], house.used[v] + i);
            }
        }
        return words;
    }

    // ---- whose it was

    public int note(int v, int u, int d, int s, int w) {
        boolean asTold = isThere(v) && within(u, 0, 20) && within(d, 0, 99) && isSort(s) && within(w, 0, 9);
        if (!asTold) {
            return bad();
        }
        if (house.notes >= MOST_NOTES) {
            return full();
        }
        return house.writeDown(v, u, d, s, w);
    }

    public int forget() {
        int were = house.notes;
        house.notes = 0;
        return were;
    }

    public int is(int v) {
        if (!isThere(v)) {
            return bad();
        }
        return house.kindsByNotes(v);
    }

    public int listen(int v) {
        if (!isThere(v)) {
            return bad();
        }
        int kinds = house.kindsByNotes(v);
        if (kinds == 0) {
            return NONE;
        }
        int chosen = NONE;
        int fewest = Kinds.HOW_MANY + 1;
        for (int u = 0; u <= 4; u++) {
            for (int d = 0; d <= 1; d++) {
                int alike = Kinds.mostAlike(kinds, house.sort[v], u, d);
                if (alike < fewest) {
                    fewest = alike;
                    chosen = 10 * u + d;
                }
            }
        }
        return chosen;
    }

    public int whose(int s) {
        if (!isSort(s)) {
            return bad();
        }
        int bits = 0;
        for (int v = 0; v < house.people; v++) {
            if (house.soundOf(v) == s) {
                bits |= 1 << v;
            }
        }
        return bits;
    }

    public int asks(int a, int b, int v) {
        if (!isThere(a) || !isThere(b) || a == b || !isThere(v)) {
            return bad();
        }
        if (house.holder[v] != NONE) {
            return no();
        }
        int aKeeps = house.fitNow(a);
        int bKeeps = house.fitNow(b);
        int bits = 0;
        for (int pair = 0; pair < 4; pair++) {
            boolean aAsks = (pair & 1) != 0;
            boolean bAsks = (pair & 2) != 0;
            int aByAsking = bAsks && b < a ? aKeeps : house.fitWith(a, v);
            int bByAsking = aAsks && a < b ? bKeeps : house.fitWith(b, v);
            if (isContent(aAsks, aByAsking, aKeeps) && isContent(bAsks, bByAsking, bKeeps)) {
                bits |= 1 << pair;
            }
        }
        return bits;
    }

    public int thieves(int n, int c) {
        if (!within(n, 0, 6) || !within(c, 0, 10)) {
            return bad();
        }
        int lying = house.atCounter();
        long ways = 0;
        long choose = 1;
        for (int left = 0; left <= lying; left++) {
            if (left >= n) {
                ways += choose * power(10 - c, left) * power(c, lying - left);
            }
            choose = choose * (lying - left) / (left + 1);
        }
        setFraction(ways, power(10, lying));
        return 1;
    }

    public int lents(int seed, int n) {
        if (!within(seed, 0, 999999) || !within(n, 0, 60)) {
            return bad();
        }
        int among = house.people;
        if (among == 0) {
            return no();
        }
        trial.becomeLike(house);
        int words = 0;
        long x = seed;
        for (int i = 0; i < n; i++) {
            x = nextOfSeed(x);
            int p = (int) (x / 65536L % among);
            x = nextOfSeed(x);
            int v = (int) (x / 65536L % among);
            trial.lendOrLeave(v, p);
            words += trial.goOneEvening();
        }
        return words;
    }

    // ---- what there is

    public long part(int what) {
        if (!within(what, 0, 1)) {
            return bad();
        }
        return what == 0 ? above : below;
    }

    public int image(int i) {
        if (!within(i, 0, 1)) {
            return bad();
        }
        if (i == 0) {
            firstImage.becomeLike(house);
            firstKept = true;
        } else {
            secondImage.becomeLike(house);
            secondKept = true;
        }
        return 1;
    }

    public int from(int i) {
        if (!within(i, 0, 1)) {
            return bad();
        }
        if (!(i == 0 ? firstKept : secondKept)) {
            return no();
        }
        house.becomeLike(i == 0 ? firstImage : secondImage);
        return 1;
    }

    public int status(int what) {
        switch (what) {
            case 0: return bads;
            case 1: return nos;
            case 2: return fulls;
            default:
                bads++;
                return -1;
        }
    }

    public int count(int what) {
        return within(what, 0, 6) ? howMany(what) : bad();
    }

    public long digest() {
        long h = 1297;
        for (int what = 0; what <= 6; what++) {
            h = 31 * h + howMany(what);
        }
        h = house.digestOn(h);
        h = 31 * h + above;
        return 31 * h + below;
    }

    // ---- refusals, and what a number must be

    private int bad() {
        bads++;
        return BAD;
    }

    private int badByTen() {
        bads++;
        return BAD_BY_TEN;
    }

    private int no() {
        nos++;
        return NO;
    }

    private int full() {
        fulls++;
        return FULL;
    }

    private static boolean within(int number, int least, int most) {
        return number >= least && number <= most;
    }

    private static boolean isSort(int number) {
        return within(number, 0, HIGHEST_SORT);
    }

    /** One number serves for both: each of the people came with a voice of the same number. */
    private boolean isThere(int personOrVoice) {
        return within(personOrVoice, 0, house.people - 1);
    }

    // ---- parts of the calls above

    private int howMany(int what) {
        switch (what) {
            case 0: return house.people;
            case 1: return house.evening;
            case 2: return house.atCounter();
            case 3: return house.allSlipped();
            case 4: return house.notes;
            case 5: return house.undos;
            default: return reader.length;
        }
    }

    /** Voices are given to people in rising order, so a set's size tells whose turn it is. */
    private void findBest() {
        int all = (1 << house.people) - 1;
        bestRest[all] = 0;
        for (int given = all - 1; given >= 0; given--) {
            int p = Integer.bitCount(given);
            int most = NONE;
            for (int v = 0; v < house.people; v++) {
                if ((given >> v & 1) == 0) {
                    int sum = house.fitWith(p, v) + bestRest[given | 1 << v];
                    if (sum > most) {
                        most = sum;
                        bestNext[given] = v;
                    }
                }
            }
            bestRest[given] = most;
        }
    }

    private int bestVoiceOf(int p) {
        int given = 0;
        for (int turn = 0; turn < p; turn++) {
            given |= 1 << bestNext[given];
        }
        return bestNext[given];
    }

    /** Whether one who asks, or keeps, would not get more by doing otherwise. */
    private static boolean isContent(boolean asks, int fitByAsking, int fitByKeeping) {
        int gain = fitByAsking - 1;
        return asks ? gain >= fitByKeeping : fitByKeeping >= gain;
    }

    private static long power(int base, int exponent) {
        long product = 1;
        for (int i = 0; i < exponent; i++) {
            product *= base;
        }
        return product;
    }

    private void setFraction(long top, long bottom) {
        long divisor = greatestCommonDivisor(top, bottom);
        if (divisor > 0) {
            above = top / divisor;
            below = bottom / divisor;
        }
    }

    private static long greatestCommonDivisor(long a, long b) {
        for (int i = 0; i < 100 && b != 0; i++) {
            long rest = a % b;
            a = b;
            b = rest;
        }
        return a;
    }

    private static long nextOfSeed(long x) {
        return (x * 1103515245L + 12345L) % 2147483648L;
    }

    /** As which sort a kind of voice sounds, and how many words it lets slip. */
    private static final class Kinds {
        static final int PLAIN = 0, BASS = 1, TREBLE = 2, REMEMBERS = 3, OLD = 4, DOUBLE = 5;
        static final int HOW_MANY = 6;

        static int soundOf(int kind, int sort, int evening) {
            switch (kind) {
                case BASS: return Math.max(0, sort - 2);
                case TREBLE:
                case DOUBLE: return Math.min(HIGHEST_SORT, sort + 2);
                case OLD: return Math.max(0, sort - 2 - evening % 2);
                default: return sort;
            }
        }

        static int wordsOf(int kind, int used) {
            switch (kind) {
                case TREBLE: return trebleWords(used);
                case REMEMBERS: return Math.max(1, 3 - used);
                case DOUBLE: return 2 * trebleWords(used);
                default: return plainWords(used);
            }
        }

        private static int plainWords(int used) {
            return used <= 2 ? 1 : 0;
        }

        private static int trebleWords(int used) {
            return plainWords(used) + 1;
        }

        /** Of these kinds (bits): how many, at most, sound and let slip alike. */
        static int mostAlike(int kinds, int sort, int used, int evening) {
            int most = 0;
            for (int a = 0; a < HOW_MANY; a++) {
                int alike = 0;
                for (int b = 0; b < HOW_MANY; b++) {
                    boolean both = (kinds >> a & 1) == 1 && (kinds >> b & 1) == 1;
                    if (both && soundOf(a, sort, evening) == soundOf(b, sort, evening)
                            && wordsOf(a, used) == wordsOf(b, used)) {
                        alike++;
                    }
                }
                most = Math.max(most, alike);
            }
            return most;
        }
    }

    /** All that an image keeps: people, voices, the evening, notes, what may be undone. */
    private static final class House {
        /** A row of the past: where voices are, used, slipped, and the evening. */
        static final int PAST_WIDTH = 3 * MOST_PEOPLE + 1;
        static final int NOTE_WIDTH = 5;

        int people = 0;
        int evening = 0;
        int notes = 0;
        int undos = 0;
        final int[] kind = new int[MOST_PEOPLE];
        final int[] sort = new int[MOST_PEOPLE];
        final int[] wants = new int[MOST_PEOPLE];
        final int[] holder = new int[MOST_PEOPLE];
        final int[] used = new int[MOST_PEOPLE];
        final int[] slipped = new int[MOST_PEOPLE];
        final int[] noteRows = new int[MOST_NOTES * NOTE_WIDTH];
        final int[] past = new int[MOST_UNDOS * PAST_WIDTH];

        void empty() {
            people = 0;
            evening = 0;
            notes = 0;
            undos = 0;
        }

        void becomeLike(House other) {
            people = other.people;
            evening = other.evening;
            notes = other.notes;
            undos = other.undos;
            System.arraycopy(other.kind, 0, kind, 0, MOST_PEOPLE);
            System.arraycopy(other.sort, 0, sort, 0, MOST_PEOPLE);
            System.arraycopy(other.wants, 0, wants, 0, MOST_PEOPLE);
            System.arraycopy(other.holder, 0, holder, 0, MOST_PEOPLE);
            System.arraycopy(other.used, 0, used, 0, MOST_PEOPLE);
            System.arraycopy(other.slipped, 0, slipped, 0, MOST_PEOPLE);
            System.arraycopy(other.noteRows, 0, noteRows, 0, MOST_NOTES * NOTE_WIDTH);
            System.arraycopy(other.past, 0, past, 0, MOST_UNDOS * PAST_WIDTH);
        }

        /** For one who comes there is no past to go back to, so none is kept. */
        int welcome(int itsKind, int itsSort, int want) {
            int number = people;
            kind[number] = itsKind;
            sort[number] = itsSort;
            wants[number] = want;
            holder[number] = number;
            used[number] = 0;
            slipped[number] = 0;
            people++;
            undos = 0;
            return number;
        }

        int voiceWith(int p) {
            for (int v = 0; v < people; v++) {
                if (holder[v] == p) {
                    return v;
                }
            }
            return NONE;
        }

        int give(int v, int p) {
            int left = voiceWith(p);
            if (left != NONE) {
                putDown(left);
            }
            holder[v] = p;
            used[v] = 0;
            return left;
        }

        void putDown(int v) {
            holder[v] = NONE;
            used[v] = 0;
        }

        boolean isWithAnother(int v) {
            return holder[v] != NONE && holder[v] != v;
        }

        int goOneEvening() {
            if (evening >= LAST_EVENING) {
                return 0;
            }
            int words = 0;
            for (int v = 0; v < people; v++) {
                if (isWithAnother(v)) {
                    int its = Kinds.wordsOf(kind[v], used[v]);
                    slipped[v] += its;
                    words += its;
                }
                if (holder[v] != NONE) {
                    used[v]++;
                }
            }
            evening++;
            return words;
        }

        void keepPast() {
            if (undos >= MOST_UNDOS) {
                System.arraycopy(past, PAST_WIDTH, past, 0, (MOST_UNDOS - 1) * PAST_WIDTH);
                undos = MOST_UNDOS - 1;
            }
            int row = undos * PAST_WIDTH;
            System.arraycopy(holder, 0, past, row, MOST_PEOPLE);
            System.arraycopy(used, 0, past, row + MOST_PEOPLE, MOST_PEOPLE);
            System.arraycopy(slipped, 0, past, row + 2 * MOST_PEOPLE, MOST_PEOPLE);
            past[row + 3 * MOST_PEOPLE] = evening;
            undos++;
        }

        void goBack() {
            if (undos <= 0) {
                return;
            }
            undos--;
            int row = undos * PAST_WIDTH;
            System.arraycopy(past, row, holder, 0, MOST_PEOPLE);
            System.arraycopy(past, row + MOST_PEOPLE, used, 0, MOST_PEOPLE);
            System.arraycopy(past, row + 2 * MOST_PEOPLE, slipped, 0, MOST_PEOPLE);
            evening = past[row + 3 * MOST_PEOPLE];
        }

        int soundOf(int v) {
            return Kinds.soundOf(kind[v], sort[v], evening);
        }

        int fitWith(int p, int v) {
            return 9 - Math.abs(soundOf(v) - wants[p]);
        }

        int fitNow(int p) {
            int v = voiceWith(p);
            return v == NONE ? 0 : fitWith(p, v);
        }

        int leastFit() {
            int who = NONE;
            for (int p = 0; p < people; p++) {
                if (who == NONE || fitNow(p) < fitNow(who)) {
                    who = p;
                }
            }
            return who;
        }

        /** A voice and the one whose own it is bear the same number, so the voice is the next one. */
        int ringFrom(int p) {
            int at = p;
            for (int step = 1; step <= people; step++) {
                at = voiceWith(at);
                if (at == NONE) {
                    return 0;
                }
                if (at == p) {
                    return step;
                }
            }
            return 0;
        }

        int ringsOfTwoOrMore() {
            int rings = 0;
            for (int p = 0; p < people; p++) {
                if (ringFrom(p) >= 2 && isFirstOfRing(p)) {
                    rings++;
                }
            }
            return rings;
        }

        private boolean isFirstOfRing(int p) {
            int at = voiceWith(p);
            for (int step = 1; step <= people && at != NONE && at != p; step++) {
                if (at < p) {
                    return false;
                }
                at = voiceWith(at);
            }
            return true;
        }

        private boolean bothWouldRather(int i, int j) {
            int a = voiceWith(i);
            int b = voiceWith(j);
            return a != NONE && b != NONE
                    && fitWith(i, b) > fitWith(i, a) && fitWith(j, a) > fitWith(j, b);
        }

        int howManySwaps() {
            int pairs = 0;
            for (int i = 0; i < people; i++) {
                for (int j = i + 1; j < people; j++) {
                    if (bothWouldRather(i, j)) {
                        pairs++;
                    }
                }
            }
            return pairs;
        }

        int swapAt(int k) {
            int ahead = 0;
            for (int i = 0; i < people; i++) {
                for (int j = i + 1; j < people; j++) {
                    if (bothWouldRather(i, j)) {
                        if (ahead == k) {
                            return 10 * i + j;
                        }
                        ahead++;
                    }
                }
            }
            return NONE;
        }

        void exchange(int i, int j) {
            int a = voiceWith(i);
            int b = voiceWith(j);
            if (a != NONE && b != NONE) {
                holder[a] = j;
                holder[b] = i;
            }
        }

        int writeDown(int v, int u, int d, int s, int w) {
            int row = notes * NOTE_WIDTH;
            noteRows[row] = v;
            noteRows[row + 1] = u;
            noteRows[row + 2] = d;
            noteRows[row + 3] = s;
            noteRows[row + 4] = w;
            notes++;
            return notes;
        }

        int kindsByNotes(int v) {
            int bits = 0;
            for (int k = 0; k < Kinds.HOW_MANY; k++) {
                boolean all = true;
                for (int i = 0; i < notes; i++) {
                    all = all && (noteRows[i * NOTE_WIDTH] != v || isSoByNote(k, i));
                }
                if (all) {
                    bits |= 1 << k;
                }
            }
            return bits;
        }

        private boolean isSoByNote(int k, int i) {
            int row = i * NOTE_WIDTH;
            int v = noteRows[row];
            return Kinds.soundOf(k, sort[v], noteRows[row + 2]) == noteRows[row + 3]
                    && Kinds.wordsOf(k, noteRows[row + 1]) == noteRows[row + 4];
        }

        void lendOrLeave(int v, int p) {
            if (holder[v] == NONE) {
                give(v, p);
                return;
            }
            int had = voiceWith(p);
            if (had != NONE) {
                putDown(had);
            }
        }

        int atCounter() {
            int lying = 0;
            for (int v = 0; v < people; v++) {
                if (holder[v] == NONE) {
                    lying++;
                }
            }
            return lying;
        }

        int allSlipped() {
            int words = 0;
            for (int v = 0; v < people; v++) {
                words += slipped[v];
            }
            return words;
        }

        long digestOn(long start) {
            long h = start;
            for (int p = 0; p < people; p++) {
                h = 31 * h + wants[p];
            }
            for (int v = 0; v < people; v++) {
                h = 31 * h + kind[v];
                h = 31 * h + sort[v];
                h = 31 * h + holder[v];
                h = 31 * h + used[v];
                h = 31 * h + slipped[v];
            }
            for (int i = 0; i < notes * NOTE_WIDTH; i++) {
                h = 31 * h + noteRows[i];
            }
            return h;
        }
    }

    /** The text, and how a house is read from it; a fault is always where the present token begins. */
    private static final class Reader {
        static final int END = 0, WORD = 1, NUMBER = 2, STOP = 3, WRONG = 4;
        static final int BLANK = 32;

        final byte[] bytes = new byte[MOST_BYTES];
        int length = 0;

        private int token = END;
        private int begin = 0;
        private int behind = 0;
        private int value = 0;

        int append(int c) {
            bytes[length] = (byte) c;
            length++;
            return length;
        }

        /** How many items, or -10 less the fault; a house that has a fault is of no use. */
        int readInto(House house) {
            house.empty();
            behind = 0;
            int items = 0;
            for (int i = 0; i <= MOST_BYTES; i++) {
                step();
                if (token == END && items > 0) {
                    return items;
                }
                if (!(items == 0 ? isCounter() : isItem(house))) {
                    break;
                }
                items++;
            }
            return -10 - begin;
        }

        private boolean isCounter() {
            return isWord("counter") && isStop();
        }

        private boolean isItem(House house) {
            if (isWord("one")) {
                return isOne(house);
            }
            if (isWord("leave")) {
                return isLeave(house);
            }
            return isWord("lend") && isLend(house);
        }

        private boolean isOne(House house) {
            if (house.people >= MOST_PEOPLE || !isNumberBelow(Kinds.HOW_MANY)) {
                return false;
            }
            int itsKind = value;
            if (!isNumberBelow(HIGHEST_SORT + 1)) {
                return false;
            }
            int itsSort = value;
            if (!isNumberBelow(HIGHEST_SORT + 1)) {
                return false;
            }
            house.welcome(itsKind, itsSort, value);
            return isStop();
        }

        private boolean isLeave(House house) {
            if (!isNumberBelow(house.people)) {
                return false;
            }
            int v = house.voiceWith(value);
            if (v == NONE) {
                return false;
            }
            house.putDown(v);
            return isStop();
        }

        private boolean isLend(House house) {
            if (!isNumberBelow(house.people) || house.holder[value] != NONE) {
                return false;
            }
            int v = value;
            if (!isNumberBelow(house.people)) {
                return false;
            }
            house.give(v, value);
            return isStop();
        }

        private boolean isNumberBelow(int bound) {
            step();
            return token == NUMBER && value < bound;
        }

        private boolean isStop() {
            step();
            return token == STOP;
        }

        private boolean isWord(String word) {
            if (token != WORD || behind - begin != word.length()) {
                return false;
            }
            for (int i = 0; i < word.length(); i++) {
                if (bytes[begin + i] != word.charAt(i)) {
                    return false;
                }
            }
            return true;
        }

        /** Goes on to the next token. */
        private void step() {
            begin = behind;
            while (begin < length && bytes[begin] == BLANK) {
                begin++;
            }
            behind = begin;
            token = END;
            if (begin >= length) {
                return;
            }
            token = tokenBegunBy(bytes[begin]);
            behind++;
            if (token == WORD || token == NUMBER) {
                while (behind < length && tokenBegunBy(bytes[behind]) == token) {
                    behind++;
                }
            }
            if (token == NUMBER) {
                takeValue();
            }
        }

        private static int tokenBegunBy(int c) {
            if (c >= 'a' && c <= 'z') {
                return WORD;
            }
            if (c >= '0' && c <= '9') {
                return NUMBER;
            }
            return c == ';' ? STOP : WRONG;
        }

        private void takeValue() {
            if (behind - begin > 2) {
                token = WRONG;
                return;
            }
            value = 0;
            for (int i = begin; i < behind; i++) {
                value = 10 * value + bytes[i] - '0';
            }
        }
    }
}

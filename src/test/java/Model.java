import java.math.BigInteger;
import java.util.ArrayDeque;
import java.util.ArrayList;
import java.util.Arrays;
import java.util.HashMap;
import java.util.List;
import java.util.Map;
import java.util.regex.Matcher;
import java.util.regex.Pattern;

/**
 * The document once more, slowly and by other means than the class: all ways are tried, all
 * moves are walked, chances are summed over every set. ModelTest holds the two together.
 */
final class Model {
    private static final int NONE = -1, BAD = -2, NO = -3, FULL = -4;

    /** The kinds as the document has them: each under the one told. */
    private static class Plain {
        int sound(int sort, int d) {
            return sort;
        }

        int words(int u) {
            return u <= 2 ? 1 : 0;
        }
    }

    private static class Bass extends Plain {
        @Override int sound(int sort, int d) {
            int s = super.sound(sort, d) - 2;
            return s < 0 ? 0 : s;
        }
    }

    private static class Treble extends Plain {
        @Override int sound(int sort, int d) {
            int s = super.sound(sort, d) + 2;
            return s > 9 ? 9 : s;
        }

        @Override int words(int u) {
            return 1 + super.words(u);
        }
    }

    private static class Remembers extends Plain {
        @Override int words(int u) {
            return 3 - u < 1 ? 1 : 3 - u;
        }
    }

    private static class Old extends Bass {
        @Override int sound(int sort, int d) {
            int s = super.sound(sort, d);
            return d % 2 == 1 && s > 0 ? s - 1 : s;
        }
    }

    private static class Twice extends Treble {
        @Override int words(int u) {
            return 2 * super.words(u);
        }
    }

    private static final List<Plain> KINDS =
            List.of(new Plain(), new Bass(), new Treble(), new Remembers(), new Old(), new Twice());

    private static final class Voice {
        int kind, sort, wants, with, used, slipped;

        Voice copy() {
            Voice o = new Voice();
            o.kind = kind;
            o.sort = sort;
            o.wants = wants;
            o.with = with;
            o.used = used;
            o.slipped = slipped;
            return o;
        }
    }

    /** All that goes into an image. Lists inside are replaced, never changed, once they are shared. */
    private static final class World {
        List<Voice> voices = new ArrayList<>();
        int evening = 0;
        List<int[]> notes = new ArrayList<>();
        List<World> past = new ArrayList<>();

        World copy() {
            World o = new World();
            for (Voice v : voices) {
                o.voices.add(v.copy());
            }
            o.evening = evening;
            o.notes = new ArrayList<>(notes);
            o.past = new ArrayList<>(past);
            return o;
        }
    }

    private World w = new World();
    private final World[] images = new World[2];
    private String text = "";
    private BigInteger above = BigInteger.ZERO, below = BigInteger.ONE;
    private final int[] refused = new int[3];

    long call(String name, int... a) {
        switch (name) {
            case "counter": return counter();
            case "one": return one(a[0], a[1], a[2]);
            case "type": return type(a[0]);
            case "clear": return clear();
            case "read": return read();
            case "lend": return lend(a[0], a[1]);
            case "leave": return leave(a[0]);
            case "evening": return evening(a[0]);
            case "undo": return undo();
            case "of": return of(a[0], a[1]);
            case "about": return about(a[0], a[1]);
            case "fit": return there(a[0]) && there(a[1]) ? fit(w, a[0], a[1]) : refuse(BAD);
            case "best": return best(a[0]);
            case "dumb": return dumb();
            case "own": return own();
            case "ring": return ring(a[0]);
            case "swaps": return swaps(a[0]);
            case "steps": return steps();
            case "worst": return worst(a[0]);
            case "slips": return slips(a[0], a[1]);
            case "note": return note(a);
            case "forget": return forget();
            case "is": return there(a[0]) ? kindsOf(a[0]) : refuse(BAD);
            case "listen": return listen(a[0]);
            case "whose": return whose(a[0]);
            case "asks": return asks(a[0], a[1], a[2]);
            case "thieves": return thieves(a[0], a[1]);
            case "lents": return lents(a[0], a[1]);
            case "part": return a[0] == 0 ? above.longValueExact() : a[0] == 1 ? below.longValueExact() : refuse(BAD);
            case "image": return image(a[0]);
            case "from": return from(a[0]);
            case "status": return status(a[0]);
            case "count": return a[0] < 0 || a[0] > 6 ? refuse(BAD) : count(a[0]);
            case "digest": return digest();
            default: throw new IllegalArgumentException(name);
        }
    }

    private int refuse(int why) {
        refused[-2 - why]++;
        return why;
    }

    private int refuseByTen() {
        refuse(BAD);
        return -10;
    }

    private boolean there(int i) {
        return i >= 0 && i < w.voices.size();
    }

    private static boolean in(int i, int least, int most) {
        return least <= i && i <= most;
    }

    private int counter() {
        int n = w.voices.size();
        w = new World();
        return n;
    }

    private static int come(World o, int kind, int sort, int wants) {
        Voice v = new Voice();
        v.kind = kind;
        v.sort = sort;
        v.wants = wants;
        v.with = o.voices.size();
        o.voices.add(v);
        o.past.clear();
        return v.with;
    }

    private int one(int kind, int sort, int wants) {
        if (!in(kind, 0, 5) || !in(sort, 0, 9) || !in(wants, 0, 9)) {
            return refuse(BAD);
        }
        return w.voices.size() == 6 ? refuse(FULL) : come(w, kind, sort, wants);
    }

    private int type(int c) {
        if (!in(c, 0, 127)) {
            return refuse(BAD);
        }
        if (text.length() == 150) {
            return refuse(FULL);
        }
        text += (char) c;
        return text.length();
    }

    private int clear() {
        int n = text.length();
        text = "";
        return n;
    }

    private static final Pattern TOKEN = Pattern.compile(" *([a-z]+|[0-9]+|(?s:[^ ]))");

    private int read() {
        List<String> tokens = new ArrayList<>();
        List<Integer> places = new ArrayList<>();
        Matcher m = TOKEN.matcher(text);
        while (m.find()) {
            tokens.add(m.group(1));
            places.add(m.start(1));
        }
        places.add(text.length());
        World o = new World();
        int at = 0;
        int items = 0;
        while (at < tokens.size() || items == 0) {
            int used = item(o, tokens.subList(at, tokens.size()), items == 0);
            if (used < 0) {
                return -10 - places.get(at + (-1 - used));
            }
            at += used;
            items++;
        }
        w = o;
        return items;
    }

    /** How many tokens the item has, or -1 less the number of the token that can not stand. */
    private static int item(World o, List<String> t, boolean first) {
        if (t.isEmpty()) {
            return -1;
        }
        String word = t.get(0);
        String shape;
        if (first) {
            shape = word.equals("counter") ? "" : null;
        } else if (word.equals("one") && o.voices.size() < 6) {
            shape = "ksw";
        } else {
            shape = word.equals("leave") ? "l" : word.equals("lend") ? "vp" : null;
        }
        if (shape == null) {
            return -1;
        }
        int[] x = new int[3];
        for (int i = 0; i < shape.length(); i++) {
            if (i + 1 >= t.size() || !t.get(i + 1).matches("[0-9]{1,2}")) {
                return -1 - (i + 1);
            }
            x[i] = Integer.parseInt(t.get(i + 1));
            if (!mayBe(o, shape.charAt(i), x[i])) {
                return -1 - (i + 1);
            }
        }
        int end = shape.length() + 1;
        if (end >= t.size() || !t.get(end).equals(";")) {
            return -1 - end;
        }
        switch (shape) {
            case "ksw": come(o, x[0], x[1], x[2]); break;
            case "l": o.voices.get(had(o, x[0])).with = NONE; break;
            case "vp": hand(o, x[0], x[1]); break;
            default: break;
        }
        return end + 1;
    }

    private static boolean mayBe(World o, char what, int x) {
        int n = o.voices.size();
        switch (what) {
            case 'k': return x <= 5;
            case 's':
            case 'w': return x <= 9;
            case 'l': return x < n && had(o, x) != NONE;
            case 'v': return x < n && o.voices.get(x).with == NONE;
            default: return x < n;
        }
    }

    private static int had(World o, int p) {
        for (int v = 0; v < o.voices.size(); v++) {
            if (o.voices.get(v).with == p) {
                return v;
            }
        }
        return NONE;
    }

    private static void down(World o, int v) {
        o.voices.get(v).with = NONE;
        o.voices.get(v).used = 0;
    }

    private static int hand(World o, int v, int p) {
        int had = had(o, p);
        if (had != NONE) {
            down(o, had);
        }
        o.voices.get(v).with = p;
        o.voices.get(v).used = 0;
        return had;
    }

    private static int night(World o) {
        if (o.evening == 999) {
            return 0;
        }
        int words = 0;
        for (int i = 0; i < o.voices.size(); i++) {
            Voice v = o.voices.get(i);
            if (v.with == NONE) {
                continue;
            }
            if (v.with != i) {
                int its = KINDS.get(v.kind).words(v.used);
                v.slipped += its;
                words += its;
            }
            v.used++;
        }
        o.evening++;
        return words;
    }

    private void keep() {
        World o = w.copy();
        o.past = new ArrayList<>();
        w.past.add(o);
        if (w.past.size() > 8) {
            w.past.remove(0);
        }
    }

    private int lend(int v, int p) {
        if (!there(v) || !there(p)) {
            return refuseByTen();
        }
        if (w.voices.get(v).with != NONE) {
            return refuse(NO);
        }
        keep();
        return hand(w, v, p);
    }

    private int leave(int p) {
        if (!there(p)) {
            return refuse(BAD);
        }
        int v = had(w, p);
        if (v == NONE) {
            return refuse(NO);
        }
        keep();
        down(w, v);
        return v;
    }

    private int evening(int n) {
        if (!in(n, 1, 30)) {
            return refuse(BAD);
        }
        keep();
        int words = 0;
        for (int i = 0; i < n; i++) {
            words += night(w);
        }
        return words;
    }

    private int undo() {
        if (w.past.isEmpty()) {
            return refuse(NO);
        }
        World o = w.past.remove(w.past.size() - 1).copy();
        w.voices = o.voices;
        w.evening = o.evening;
        return w.evening;
    }

    private static int sound(World o, int v) {
        return KINDS.get(o.voices.get(v).kind).sound(o.voices.get(v).sort, o.evening);
    }

    private static int fit(World o, int p, int v) {
        return 9 - Math.abs(o.voices.get(p).wants - sound(o, v));
    }

    private static int fitNow(World o, int p) {
        int v = had(o, p);
        return v == NONE ? 0 : fit(o, p, v);
    }

    private int of(int p, int what) {
        if (!there(p) || !in(what, 0, 2)) {
            return refuseByTen();
        }
        return new int[] {w.voices.get(p).wants, had(w, p), fitNow(w, p)}[what];
    }

    private int about(int v, int what) {
        if (!there(v) || !in(what, 0, 5)) {
            return refuseByTen();
        }
        Voice x = w.voices.get(v);
        return new int[] {x.kind, x.sort, x.with, x.used, x.slipped, sound(w, v)}[what];
    }

    private int best(int p) {
        if (p != NONE && !there(p)) {
            return refuseByTen();
        }
        int n = w.voices.size();
        int[] most = {-1};
        int[] first = new int[n];
        everyWay(new int[n], 0, most, first);
        return p == NONE ? most[0] : first[p];
    }

    private void everyWay(int[] way, int p, int[] most, int[] first) {
        if (p == way.length) {
            int sum = 0;
            for (int i = 0; i < p; i++) {
                sum += fit(w, i, way[i]);
            }
            if (sum > most[0]) {
                most[0] = sum;
                System.arraycopy(way, 0, first, 0, p);
            }
            return;
        }
        for (int v = 0; v < way.length; v++) {
            boolean free = true;
            for (int i = 0; i < p; i++) {
                free &= way[i] != v;
            }
            if (free) {
                way[p] = v;
                everyWay(way, p + 1, most, first);
            }
        }
    }

    private int dumb() {
        int bits = 0;
        for (int p = 0; p < w.voices.size(); p++) {
            bits += had(w, p) == NONE ? 1 << p : 0;
        }
        return bits;
    }

    /** For each number of people: from everybody's own, how many moves lead to each state. */
    private static final Map<Integer, Map<List<Integer>, Integer>> MOVES = new HashMap<>();

    private int own() {
        List<Integer> now = new ArrayList<>();
        for (Voice v : w.voices) {
            now.add(v.with);
        }
        return MOVES.computeIfAbsent(now.size(), Model::walkAllMoves).get(now);
    }

    /** A move back is a move too, so the way from all their own is as long as the way to it. */
    private static Map<List<Integer>, Integer> walkAllMoves(int n) {
        List<Integer> start = new ArrayList<>();
        for (int i = 0; i < n; i++) {
            start.add(i);
        }
        Map<List<Integer>, Integer> far = new HashMap<>();
        ArrayDeque<List<Integer>> open = new ArrayDeque<>();
        far.put(start, 0);
        open.add(start);
        while (!open.isEmpty()) {
            List<Integer> at = open.remove();
            for (int v = 0; v < n; v++) {
                for (int to = NONE; to < n; to++) {
                    if (to != NONE && at.contains(to) || at.get(v) == to) {
                        continue;
                    }
                    List<Integer> next = new ArrayList<>(at);
                    next.set(v, to);
                    if (far.putIfAbsent(next, far.get(at) + 1) == null) {
                        open.add(next);
                    }
                }
            }
        }
        return far;
    }

    private int ring(int p) {
        if (!there(p)) {
            return refuse(BAD);
        }
        int steps = 0;
        int at = p;
        do {
            at = had(w, at);
            steps++;
        } while (at != NONE && at != p);
        return at == NONE ? 0 : steps;
    }

    private static List<int[]> swapsOf(World o) {
        List<int[]> pairs = new ArrayList<>();
        for (int j = 0; j < o.voices.size(); j++) {
            for (int i = 0; i < j; i++) {
                int a = had(o, i);
                int b = had(o, j);
                if (a >= 0 && b >= 0 && fit(o, i, b) > fitNow(o, i) && fit(o, j, a) > fitNow(o, j)) {
                    pairs.add(new int[] {i, j});
                }
            }
        }
        pairs.sort((x, y) -> 10 * x[0] + x[1] - 10 * y[0] - y[1]);
        return pairs;
    }

    private int swaps(int k) {
        if (k < NONE) {
            return refuseByTen();
        }
        List<int[]> pairs = swapsOf(w);
        if (k == NONE) {
            return pairs.size();
        }
        return k < pairs.size() ? 10 * pairs.get(k)[0] + pairs.get(k)[1] : -5;
    }

    private int steps() {
        World o = w.copy();
        int steps = 0;
        for (List<int[]> p = swapsOf(o); !p.isEmpty() && steps < 60; p = swapsOf(o)) {
            Voice a = o.voices.get(had(o, p.get(0)[0]));
            Voice b = o.voices.get(had(o, p.get(0)[1]));
            int with = a.with;
            a.with = b.with;
            b.with = with;
            steps++;
        }
        return steps;
    }

    private int worst(int what) {
        if (!in(what, 0, 1)) {
            return refuse(BAD);
        }
        for (int f = 0; f <= 9; f++) {
            for (int p = 0; p < w.voices.size(); p++) {
                if (fitNow(w, p) == f) {
                    return what == 0 ? p : f;
                }
            }
        }
        return NONE;
    }

    private int slips(int v, int m) {
        if (!there(v) || !in(m, 0, 60)) {
            return refuse(BAD);
        }
        World o = w.copy();
        for (int i = 0; i < m; i++) {
            o.evening = 0;
            night(o);
        }
        return o.voices.get(v).slipped;
    }

    private int note(int[] a) {
        if (!there(a[0]) || !in(a[1], 0, 20) || !in(a[2], 0, 99) || !in(a[3], 0, 9) || !in(a[4], 0, 9)) {
            return refuse(BAD);
        }
        if (w.notes.size() == 6) {
            return refuse(FULL);
        }
        w.notes.add(a.clone());
        return w.notes.size();
    }

    private int forget() {
        int n = w.notes.size();
        w.notes = new ArrayList<>();
        return n;
    }

    private int kindsOf(int v) {
        int bits = 63;
        for (int[] n : w.notes) {
            for (int k = 0; k < 6; k++) {
                Plain kind = KINDS.get(k);
                boolean so = kind.sound(w.voices.get(v).sort, n[2]) == n[3] && kind.words(n[1]) == n[4];
                if (n[0] == v && !so) {
                    bits &= ~(1 << k);
                }
            }
        }
        return bits;
    }

    private int listen(int v) {
        if (!there(v)) {
            return refuse(BAD);
        }
        int bits = kindsOf(v);
        int least = 7;
        int at = NONE;
        for (int ud : new int[] {0, 1, 10, 11, 20, 21, 30, 31, 40, 41}) {
            Map<String, Integer> groups = new HashMap<>();
            int most = 0;
            for (int k = 0; k < 6; k++) {
                if ((bits & 1 << k) != 0) {
                    Plain kind = KINDS.get(k);
                    String heard = kind.sound(w.voices.get(v).sort, ud % 10) + "/" + kind.words(ud / 10);
                    most = Math.max(most, groups.merge(heard, 1, Integer::sum));
                }
            }
            if (bits != 0 && most < least) {
                least = most;
                at = ud;
            }
        }
        return at;
    }

    private int whose(int s) {
        if (!in(s, 0, 9)) {
            return refuse(BAD);
        }
        int bits = 0;
        for (int v = 0; v < w.voices.size(); v++) {
            bits |= sound(w, v) == s ? 1 << v : 0;
        }
        return bits;
    }

    private int asks(int a, int b, int v) {
        if (!there(a) || !there(b) || !there(v) || a == b) {
            return refuse(BAD);
        }
        if (w.voices.get(v).with != NONE) {
            return refuse(NO);
        }
        int[][] gain = new int[4][];
        for (int pair = 0; pair < 4; pair++) {
            World o = w.copy();
            int has = pair == 0 ? NONE : pair == 1 ? a : pair == 2 ? b : Math.min(a, b);
            if (has != NONE) {
                hand(o, v, has);
            }
            gain[pair] = new int[] {fitNow(o, a) - (pair & 1), fitNow(o, b) - (pair >> 1)};
        }
        int bits = 0;
        for (int pair = 0; pair < 4; pair++) {
            boolean rests = gain[pair][0] >= gain[pair ^ 1][0] && gain[pair][1] >= gain[pair ^ 2][1];
            bits |= rests ? 1 << pair : 0;
        }
        return bits;
    }

    private int thieves(int n, int c) {
        if (!in(n, 0, 6) || !in(c, 0, 10)) {
            return refuse(BAD);
        }
        int m = (int) count(2);
        BigInteger top = BigInteger.ZERO;
        for (int left = 0; left < 1 << m; left++) {
            if (Integer.bitCount(left) >= n) {
                BigInteger ways = BigInteger.ONE;
                for (int v = 0; v < m; v++) {
                    ways = ways.multiply(BigInteger.valueOf((left & 1 << v) != 0 ? 10 - c : c));
                }
                top = top.add(ways);
            }
        }
        BigInteger bottom = BigInteger.TEN.pow(m);
        BigInteger g = top.gcd(bottom);
        above = top.divide(g);
        below = bottom.divide(g);
        return 1;
    }

    private int lents(int seed, int n) {
        if (!in(seed, 0, 999999) || !in(n, 0, 60)) {
            return refuse(BAD);
        }
        int people = w.voices.size();
        if (people == 0) {
            return refuse(NO);
        }
        World o = w.copy();
        BigInteger x = BigInteger.valueOf(seed);
        int words = 0;
        for (int i = 0; i < n; i++) {
            int[] pv = new int[2];
            for (int k = 0; k < 2; k++) {
                x = x.multiply(BigInteger.valueOf(1103515245)).add(BigInteger.valueOf(12345)).mod(BigInteger.TWO.pow(31));
                pv[k] = x.shiftRight(16).intValueExact() % people;
            }
            if (o.voices.get(pv[1]).with == NONE) {
                hand(o, pv[1], pv[0]);
            } else if (had(o, pv[0]) != NONE) {
                down(o, had(o, pv[0]));
            }
            words += night(o);
        }
        return words;
    }

    private int image(int i) {
        if (!in(i, 0, 1)) {
            return refuse(BAD);
        }
        images[i] = w.copy();
        return 1;
    }

    private int from(int i) {
        if (!in(i, 0, 1)) {
            return refuse(BAD);
        }
        if (images[i] == null) {
            return refuse(NO);
        }
        w = images[i].copy();
        return 1;
    }

    private int status(int what) {
        if (!in(what, 0, 2)) {
            refuse(BAD);
            return -1;
        }
        return refused[what];
    }

    private long count(int what) {
        switch (what) {
            case 0: return w.voices.size();
            case 1: return w.evening;
            case 2: return w.voices.stream().filter(v -> v.with == NONE).count();
            case 3: return w.voices.stream().mapToInt(v -> v.slipped).sum();
            case 4: return w.notes.size();
            case 5: return w.past.size();
            default: return text.length();
        }
    }

    private long digest() {
        List<Long> row = new ArrayList<>();
        for (int i = 0; i <= 6; i++) {
            row.add(count(i));
        }
        w.voices.forEach(v -> row.add((long) v.wants));
        for (Voice v : w.voices) {
            for (int x : new int[] {v.kind, v.sort, v.with, v.used, v.slipped}) {
                row.add((long) x);
            }
        }
        w.notes.forEach(n -> Arrays.stream(n).forEach(x -> row.add((long) x)));
        row.add(above.longValueExact());
        row.add(below.longValueExact());
        long h = 1297;
        for (long v : row) {
            h = 31 * h + v;
        }
        return h;
    }
}

import java.util.ArrayList;
import java.util.Comparator;
import java.util.List;
import java.util.TreeMap;

/** The document once more, built in another way than the class: maps, copies, closed forms and plain search. */
final class Model {
    static final class State {
        int night;
        long lump;
        final List<TreeMap<Integer, Long>> rings = new ArrayList<>();

        State() {
            for (int o = 0; o < 5; o++) {
                rings.add(new TreeMap<>());
            }
        }

        State copy() {
            State s = new State();
            s.night = night;
            s.lump = lump;
            for (int o = 0; o < 5; o++) {
                s.rings.get(o).putAll(rings.get(o));
            }
            return s;
        }

        long have(int o) {
            return rings.get(o).values().stream().mapToLong(Long::longValue).sum();
        }

        long total() {
            long sum = 0;
            for (int o = 0; o < 5; o++) {
                sum += have(o);
            }
            return sum;
        }

        void takeOldest(int o, long n) {
            TreeMap<Integer, Long> row = rings.get(o);
            while (n > 0) {
                int oldest = row.firstKey();
                long there = row.remove(oldest);
                if (there > n) {
                    row.put(oldest, there - n);
                }
                n -= Math.min(n, there);
            }
        }
    }

    private final StringBuilder text = new StringBuilder();
    private State state = new State();
    private List<State> past = new ArrayList<>();
    private State[] images = new State[2];
    private List<int[]> grave = new ArrayList<>();
    private List<int[]> dues = new ArrayList<>();
    private int heavy = 81;
    private int more = 8;
    private int often = 9;
    private int partA = 1;
    private int partB = 3;
    private int later = 0;
    private long trace = 0;

    Model() {
        state.rings.get(0).put(0, 1L);
    }

    private int weight(int o) {
        return o == 0 ? heavy : weight(o - 1) * partA / partB;
    }

    private int each(int o) {
        return often + o * later;
    }

    private boolean drips(int o) {
        return o < 4 && weight(o + 1) > 0;
    }

    int type(int letter) {
        if (letter < 0 || letter > 255) {
            return -1;
        }
        if (text.length() == 200) {
            return -3;
        }
        text.append((char) letter);
        return text.length();
    }

    int clear() {
        int n = text.length();
        text.setLength(0);
        return n;
    }

    /** Each token as: its place, and its letter, or 'n' with its number, or '?'. */
    private List<int[]> tokens() {
        List<int[]> all = new ArrayList<>();
        java.util.regex.Matcher m = java.util.regex.Pattern.compile("[0-9]+|[^ ]", java.util.regex.Pattern.DOTALL)
            .matcher(text);
        while (m.find()) {
            String t = m.group();
            if (t.matches("0|[1-9][0-9]{0,2}") && Integer.parseInt(t) <= 200) {
                all.add(new int[] {m.start(), 'n', Integer.parseInt(t)});
            } else if (t.matches("[rltp;]")) {
                all.add(new int[] {m.start(), t.charAt(0), 0});
            } else {
                all.add(new int[] {m.start(), '?', 0});
            }
        }
        all.add(new int[] {text.length(), '$', 0});
        return all;
    }

    int ring() {
        List<int[]> tokens = tokens();
        int[] read = {81, 8, 9, 1, 3, 0};
        List<int[]> newDues = new ArrayList<>();
        int[][] bounds = {{1, 99}, {1, 9}, {1, 20}, {1, 8}, {2, 9}, {0, 9}};
        boolean[] had = new boolean[128];
        int at = 0;
        int items = 0;
        while (tokens.get(at)[1] != '$') {
            int sign = tokens.get(at)[1];
            int from = sign == 'r' ? 0 : sign == 'l' ? 3 : 5;
            int many = sign == 'r' ? 3 : sign == 'l' || sign == 'p' ? 2 : 1;
            if ("rltp".indexOf(sign) < 0 || sign != 'p' && had[sign] || sign == 'p' && newDues.size() == 6) {
                return -10 - tokens.get(at)[0];
            }
            had[sign] = true;
            at++;
            int[] due = new int[2];
            for (int k = 0; k < many; k++, at++) {
                int[] t = tokens.get(at);
                int low = sign == 'p' ? 1 : bounds[from + k][0];
                int high = sign == 'p' ? (k == 0 ? 120 : 200) : bounds[from + k][1];
                if (t[1] != 'n' || t[2] < low || t[2] > high || sign == 'l' && k == 1 && t[2] <= read[3]) {
                    return -10 - t[0];
                }
                if (sign == 'p') {
                    due[k] = t[2];
                } else {
                    read[from + k] = t[2];
                }
            }
            if (tokens.get(at)[1] != ';') {
                return -10 - tokens.get(at)[0];
            }
            at++;
            if (sign == 'p') {
                newDues.add(due);
            }
            items++;
        }
        heavy = read[0];
        more = read[1];
        often = read[2];
        partA = read[3];
        partB = read[4];
        later = read[5];
        dues = newDues;
        text.setLength(0);
        state = new State();
        state.rings.get(0).put(0, 1L);
        past = new ArrayList<>();
        images = new State[2];
        grave = new ArrayList<>();
        return items;
    }

    int order(int o, int what) {
        if (o < 0 || o > 4 || what < 0 || what > 3) {
            return -1;
        }
        if (what == 3) {
            return state.rings.get(o).isEmpty() ? -9 : state.night - state.rings.get(o).firstKey();
        }
        return what == 0 ? weight(o) : what == 1 ? each(o) : drips(o) ? 1 : 0;
    }

    int due(int i, int what) {
        return i < 0 || i >= dues.size() || what < 0 || what > 1 ? -1 : dues.get(i)[what];
    }

    long now(int what) {
        long[] all = {state.night, state.lump, state.total(), weighs(state) + state.lump, past.size()};
        return what < 0 || what > 4 ? -1 : all[what];
    }

    private long weighs(State s) {
        long sum = 0;
        for (int o = 0; o < 5; o++) {
            sum += s.have(o) * weight(o);
        }
        return sum;
    }

    private void remember() {
        past.add(state.copy());
        if (past.size() > 8) {
            past.remove(0);
        }
    }

    private long goOn(State s) {
        s.night++;
        long dripped = 0;
        for (int o = 3; o >= 0; o--) {
            long some = 0;
            for (int born : s.rings.get(o).keySet()) {
                int age = s.night - born;
                if (age > 0 && age % each(o) == 0 && drips(o)) {
                    some += s.rings.get(o).get(born);
                }
            }
            if (some > 0) {
                s.rings.get(o + 1).put(s.night, some * more);
            }
            dripped += some;
        }
        return dripped;
    }

    long night() {
        if (state.night == 120) {
            return -2;
        }
        remember();
        return goOn(state);
    }

    long swans(int o, int n) {
        if (o < 0 || o > 4 || n < 1 || n > 1000000) {
            return -1;
        }
        if (state.have(o) < n) {
            return -2;
        }
        remember();
        state.takeOldest(o, n);
        return (long) n * weight(o);
    }

    long melts(int o, int n) {
        long weighed = swans(o, n);
        if (weighed >= 0) {
            state.lump += weighed;
            return state.lump;
        }
        return weighed;
    }

    long pays(int w) {
        if (w < 1 || w > 1000000) {
            return -1;
        }
        if (state.lump < w) {
            return -2;
        }
        remember();
        state.lump -= w;
        return state.lump;
    }

    int undo() {
        if (past.isEmpty()) {
            return -2;
        }
        state = past.remove(past.size() - 1);
        return past.size();
    }

    private State on(State s, int night) {
        State t = s.copy();
        while (t.night < night) {
            goOn(t);
        }
        return t;
    }

    long all(int night, int o) {
        if (night < state.night || night > 120 || o < -2 || o > 4) {
            return -1;
        }
        State s = on(state, night);
        return o == -2 ? weighs(s) + s.lump : o == -1 ? s.total() : s.have(o);
    }

    int above(int w) {
        if (w < 0 || w > 1000000000) {
            return -1;
        }
        State s = state.copy();
        while (weighs(s) + s.lump <= w) {
            if (s.night == 120) {
                return -9;
            }
            goOn(s);
        }
        return s.night;
    }

    /** How many of each, the sum behind them; null if it can't be. Sums are tried one by one, greatest ORDERS first. */
    private int[] cheapest(State s, int w) {
        long sum = 0;
        for (int o = 0; o < 5; o++) {
            sum += Math.min(s.have(o), 1000) * weight(o);
        }
        if (sum < w) {
            return null;
        }
        long[] below = new long[6];
        for (int o = 0; o < 5; o++) {
            below[o + 1] = below[o] + s.have(o) * weight(o);
        }
        for (int want = w;; want++) {
            int[] taken = new int[6];
            if (choose(s, 4, want, taken, below)) {
                taken[5] = want;
                return taken;
            }
        }
    }

    private boolean choose(State s, int o, int want, int[] taken, long[] below) {
        if (o < 0 || want == 0) {
            return want == 0;
        }
        if (want > below[o + 1]) {
            return false;
        }
        int w = weight(o);
        if (o == 0) {
            taken[0] = want % w == 0 && want / w <= s.have(0) ? want / w : 0;
            return taken[0] > 0;
        }
        for (int n = w == 0 ? 0 : (int) Math.min(s.have(o), want / w); n >= 0; n--) {
            taken[o] = n;
            if (choose(s, o - 1, want - n * w, taken, below)) {
                return true;
            }
        }
        taken[o] = 0;
        return false;
    }

    int least(int w, int o) {
        if (w < 1 || w > 200 || o < -1 || o > 4) {
            return -1;
        }
        int[] taken = cheapest(state, w);
        return taken == null ? -9 : o == -1 ? taken[5] : taken[o];
    }

    /** The first DUE that fails, or -9; and what is left. */
    private long[] settle() {
        List<int[]> open = new ArrayList<>();
        for (int i = 0; i < dues.size(); i++) {
            if (dues.get(i)[0] > state.night) {
                open.add(new int[] {dues.get(i)[0], i, dues.get(i)[1]});
            }
        }
        open.sort(Comparator.<int[]>comparingInt(d -> d[0]).thenComparingInt(d -> d[1]));
        State s = state;
        for (int[] d : open) {
            s = on(s, d[0]);
            int[] taken = cheapest(s, d[2]);
            if (taken == null) {
                return new long[] {d[1], -9};
            }
            for (int o = 0; o < 5; o++) {
                s.takeOldest(o, taken[o]);
            }
        }
        return new long[] {-9, weighs(s)};
    }

    int met() {
        return (int) settle()[0];
    }

    long left() {
        return settle()[1];
    }

    int age(int w) {
        if (w < 1 || w > 99) {
            return -1;
        }
        int bits = 0;
        for (int o = 0; o < 5; o++) {
            bits += weight(o) == w ? 1 << o : 0;
        }
        return bits;
    }

    /** How many of ORDER o there are on a NIGHT from the first ring alone: by counting the ways down to it. */
    private long fromFirst(int at, int o, int nights) {
        if (at == o) {
            return 1;
        }
        long some = 0;
        if (drips(at)) {
            for (int age = each(at); age <= nights; age += each(at)) {
                some += more * fromFirst(at + 1, o, nights - age);
            }
        }
        return some;
    }

    private boolean atLeast(int o, int n, int night) {
        return fromFirst(0, o, night) >= n;
    }

    int first(int o, int n) {
        if (o < 0 || o > 4 || n < 1 || n > 1000000) {
            return -1;
        }
        for (int night = 0; night <= 120; night++) {
            if (atLeast(o, n, night)) {
                return night;
            }
        }
        return -9;
    }

    int lay(int o, int n) {
        if (o < 0 || o > 4 || n < 0 || n > 1000000) {
            return -1;
        }
        if (grave.size() == 5) {
            return -3;
        }
        grave.add(new int[] {o, n});
        return grave.size();
    }

    int forget() {
        int n = grave.size();
        grave.clear();
        return n;
    }

    int mayBe(int what) {
        if (what < 0 || what > 2) {
            return -1;
        }
        List<Integer> nights = new ArrayList<>();
        for (int night = 0; night <= 120; night++) {
            boolean fits = true;
            for (int[] g : grave) {
                fits = fits && fromFirst(0, g[0], night) == g[1];
            }
            if (fits) {
                nights.add(night);
            }
        }
        if (what == 0) {
            return nights.size();
        }
        return nights.isEmpty() ? -9 : what == 1 ? nights.get(0) : nights.get(nights.size() - 1);
    }

    int smelt(int night, int w) {
        if (night < state.night || night > 120 || w < 1 || w > 1000000000) {
            return -1;
        }
        if (all(night, -2) <= w) {
            return 5;
        }
        for (int o = 0; o < 5; o++) {
            State s = state.copy();
            s.rings.get(o).clear();
            s = on(s, night);
            if (weighs(s) + s.lump <= w) {
                return o;
            }
        }
        return -9;
    }

    long odds(int o, int what) {
        if (o < 0 || o > 4 || what < 0 || what > 1) {
            return -1;
        }
        java.math.BigInteger upper = java.math.BigInteger.valueOf(state.have(o));
        java.math.BigInteger lower = java.math.BigInteger.valueOf(Math.max(1, state.total()));
        java.math.BigInteger common = upper.gcd(lower);
        return (what == 0 ? upper : lower).divide(common).longValue();
    }

    long barley(int b, int w) {
        if (b < 1 || b > 1000 || w < 0 || w > 1000000) {
            return -1;
        }
        long gold = weighs(state) + state.lump;
        return gold == 0 ? -9 : (long) b * w / gold;
    }

    int rate(int kind, int o) {
        if (kind < 0 || kind > 5 || o < 0 || o > 4) {
            return -1000000;
        }
        int[] traces = {1, 11, 101, 1011, 10101, 100001};
        trace += traces[kind];
        int w = weight(o);
        int[] rates = {w, w + more, w - each(o), 2 * (w + more), w - each(o) + o, w + state.night};
        return rates[kind];
    }

    int keep(int image) {
        if (image < 0 || image > 1) {
            return -1;
        }
        images[image] = state.copy();
        return state.night;
    }

    int back(int image) {
        if (image < 0 || image > 1) {
            return -1;
        }
        if (images[image] == null) {
            return -2;
        }
        state = images[image].copy();
        past.clear();
        return state.night;
    }

    int count(int what) {
        int[] all = {more, later, dues.size(), grave.size(), text.length()};
        return what < 0 || what > 4 ? -1 : all[what];
    }

    long trace() {
        return trace;
    }
}

import java.util.ArrayList;
import java.util.List;

/**
 * The document word by word: each ring is a thing of its own; what is UNDONE is told by doing all anew but the last;
 * LEAST tries every choice of rings.
 */
public final class RingByRingTest {
    private static final int RUNS = 600;
    private static final int MOST_RINGS = 13;

    /** A ring: its ORDER and its first NIGHT. */
    private record Ring(int order, int first) {
    }

    private static final class House {
        final List<Ring> rings = new ArrayList<>();
        int night = 0;
        long lump = 0;

        House() {
            rings.add(new Ring(0, 0));
        }

        House(House other) {
            rings.addAll(other.rings);
            night = other.night;
            lump = other.lump;
        }
    }

    private final Draw draw;
    private final int[] weights = new int[5];
    private final int[] each = new int[5];
    private final int more;
    private final List<int[]> dues = new ArrayList<>();
    private final DripRings x = new DripRings();
    private final String text;
    private final List<int[]> deeds = new ArrayList<>();
    private int known = 0;

    private RingByRingTest(int seed) {
        draw = new Draw(seed);
        int w = 1 + draw.nextInt(99);
        more = 1 + draw.nextInt(2);
        int n = 1 + draw.nextInt(20);
        int a = 1 + draw.nextInt(8);
        int b = a + 1 + draw.nextInt(9 - a);
        int later = draw.nextInt(10);
        StringBuilder told = new StringBuilder();
        told.append("t ").append(later).append(";");
        for (int i = draw.nextInt(7); i > 0; i--) {
            int[] due = {1 + draw.nextInt(50), 1 + draw.nextInt(200)};
            if (draw.nextInt(2) == 0) {
                due[1] = 1 + draw.nextInt(40);
            }
            dues.add(due);
            told.append(" p").append(due[0]).append(' ').append(due[1]).append(";");
        }
        told.append("l").append(a).append(' ').append(b).append(" ; r ").append(w).append(' ').append(more).append(' ')
            .append(n).append(';');
        text = told.toString();
        for (int o = 0; o < 5; o++) {
            weights[o] = o == 0 ? w : weights[o - 1] * a / b;
            each[o] = n + later * o;
        }
        for (char c : text.toCharArray()) {
            x.type(c);
        }
        due("ring", x.ring(), 3 + dues.size());
    }

    private void due(String call, long got, long want) {
        StringBuilder told = new StringBuilder(text).append(" behind");
        for (int[] d : deeds) {
            told.append(' ').append(d[0]).append(',').append(d[1]).append(',').append(d[2]);
        }
        Check.due(told + ": " + call, got, want);
    }

    private long goOn(House h) {
        h.night++;
        List<Ring> born = new ArrayList<>();
        long dripped = 0;
        for (Ring r : h.rings) {
            int age = h.night - r.first;
            if (r.order < 4 && weights[r.order + 1] > 0 && age >= each[r.order] && age % each[r.order] == 0) {
                dripped++;
                for (int i = 0; i < more; i++) {
                    born.add(new Ring(r.order + 1, h.night));
                }
            }
        }
        h.rings.addAll(born);
        return dripped;
    }

    private House on(House h, int night) {
        House later = new House(h);
        while (later.night < night) {
            goOn(later);
        }
        return later;
    }

    /** As rings stand in the row by their first NIGHT, the first of an ORDER is the oldest. */
    private void take(House h, int order, int n) {
        for (int i = 0; i < n; i++) {
            for (int k = 0; k < h.rings.size(); k++) {
                if (h.rings.get(k).order == order) {
                    h.rings.remove(k);
                    break;
                }
            }
        }
    }

    private int have(House h, int order) {
        int n = 0;
        for (Ring r : h.rings) {
            n += r.order == order ? 1 : 0;
        }
        return n;
    }

    private long weight(House h) {
        long sum = 0;
        for (Ring r : h.rings) {
            sum += weights[r.order];
        }
        return sum;
    }

    private House house() {
        House h = new House();
        for (int[] d : deeds) {
            if (d[0] == 0) {
                goOn(h);
            } else if (d[0] == 3) {
                h.lump -= d[1];
            } else {
                take(h, d[1], d[2]);
                h.lump += d[0] == 2 ? (long) d[2] * weights[d[1]] : 0;
            }
        }
        return h;
    }

    /** Of every choice of rings: the lightest, then of ORDER 4 the most, then of 3, ..; what it weighs stands last. */
    private int[] least(House h, int w) {
        int[] best = null;
        int n = h.rings.size();
        for (int bits = 0; bits < 1 << n; bits++) {
            int[] some = new int[6];
            for (int i = 0; i < n; i++) {
                if ((bits >> i & 1) == 1) {
                    some[h.rings.get(i).order]++;
                    some[5] += weights[h.rings.get(i).order];
                }
            }
            if (some[5] >= w && (best == null || isBetter(some, best))) {
                best = some;
            }
        }
        return best;
    }

    private static boolean isBetter(int[] some, int[] best) {
        if (some[5] != best[5]) {
            return some[5] < best[5];
        }
        for (int o = 4; o >= 0; o--) {
            if (some[o] != best[o]) {
                return some[o] > best[o];
            }
        }
        return false;
    }

    private void askLeast(House h) {
        int w = draw.nextInt(3) == 0 ? 1 + draw.nextInt(200) : 1 + draw.nextInt(Math.min(200, (int) weight(h) + 1));
        int[] best = least(h, w);
        for (int o = -1; o < 5; o++) {
            due("least(" + w + ", " + o + ")", x.least(w, o), best == null ? -9 : o < 0 ? best[5] : best[o]);
        }
    }

    private void askDues(House now) {
        House h = new House(now);
        int unmet = -9;
        for (int night = now.night + 1; night <= 120 && unmet == -9; night++) {
            for (int i = 0; i < dues.size() && unmet == -9; i++) {
                if (dues.get(i)[0] == night) {
                    h = on(h, night);
                    if (h.rings.size() > MOST_RINGS) {
                        return;
                    }
                    int[] best = least(h, dues.get(i)[1]);
                    for (int o = 0; o < 5 && best != null; o++) {
                        take(h, o, best[o]);
                    }
                    unmet = best == null ? i : unmet;
                }
            }
        }
        due("met()", x.met(), unmet);
        due("left()", x.left(), unmet == -9 ? weight(h) : -9);
    }

    private void askToCome(House h) {
        int to = Math.min(120, h.night + draw.nextInt(30));
        House then = on(h, to);
        for (int o = 0; o < 5; o++) {
            due("all(" + to + ", " + o + ")", x.all(to, o), have(then, o));
        }
        due("all(" + to + ", -1)", x.all(to, -1), then.rings.size());
        due("all(" + to + ", -2)", x.all(to, -2), weight(then) + then.lump);
        int w = Math.max(1, (int) (weight(then) + then.lump) - draw.nextInt(80));
        int best = weight(then) + then.lump <= w ? 5 : -9;
        for (int o = 4; o >= 0 && best != 5; o--) {
            House without = new House(h);
            take(without, o, have(h, o));
            House later = on(without, to);
            best = weight(later) + later.lump <= w ? o : best;
        }
        due("smelt(" + to + ", " + w + ")", x.smelt(to, w), best);
        int first = -9;
        for (int night = to; night >= h.night; night--) {
            House at = on(h, night);
            first = weight(at) + at.lump > w ? night : first;
        }
        int got = x.above(w);
        due("above(" + w + ")", got > to ? -9 : got, first);
    }

    private void askNow(House h) {
        long[] now = {h.night, h.lump, h.rings.size(), weight(h) + h.lump, known};
        for (int what = 0; what < 5; what++) {
            due("now(" + what + ")", x.now(what), now[what]);
        }
        for (int o = 0; o < 5; o++) {
            int oldest = -9;
            for (Ring r : h.rings) {
                oldest = r.order == o ? Math.max(oldest, h.night - r.first) : oldest;
            }
            due("order(" + o + ", 3)", x.order(o, 3), oldest);
        }
    }

    private void done(int kind, int a, int b) {
        deeds.add(new int[] {kind, a, b});
        known = Math.min(8, known + 1);
    }

    private void step() {
        House h = house();
        int o = draw.nextInt(5);
        int have = have(h, o);
        int n = 1 + draw.nextInt(Math.max(1, have));
        switch (draw.nextInt(have > 4 ? 4 : 8)) {
            case 0:
                due("swans(" + o + ", " + n + ")", x.swans(o, n), have < n ? -2 : (long) n * weights[o]);
                if (have >= n) {
                    done(1, o, n);
                }
                break;
            case 1:
                due("melts(" + o + ", " + n + ")", x.melts(o, n), have < n ? -2 : h.lump + (long) n * weights[o]);
                if (have >= n) {
                    done(2, o, n);
                }
                break;
            case 2:
                int w = 1 + draw.nextInt((int) h.lump + 2);
                due("pays(" + w + ")", x.pays(w), h.lump < w ? -2 : h.lump - w);
                if (h.lump >= w) {
                    done(3, w, 0);
                }
                break;
            case 3:
                due("undo()", x.undo(), known == 0 ? -2 : known - 1);
                if (known > 0) {
                    deeds.remove(deeds.size() - 1);
                    known--;
                }
                break;
            default:
                due("night()", x.night(), h.night == 120 ? -2 : goOn(new House(h)));
                if (h.night < 120) {
                    done(0, 0, 0);
                }
                break;
        }
    }

    private void run() {
        for (int i = 0; i < 25; i++) {
            step();
            House h = house();
            askNow(h);
            if (h.rings.size() > MOST_RINGS) {
                return;
            }
            switch (draw.nextInt(3)) {
                case 0:
                    askLeast(h);
                    break;
                case 1:
                    askDues(h);
                    break;
                default:
                    if (on(h, Math.min(120, h.night + 30)).rings.size() < 3000) {
                        askToCome(h);
                    }
                    break;
            }
        }
    }

    public static void main(String[] args) {
        for (int seed = 0; seed < RUNS; seed++) {
            new RingByRingTest(seed).run();
        }
        Check.end();
    }
}

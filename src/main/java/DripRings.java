import java.util.Arrays;

/** A ring that drips rings, and what becomes of them night by night, as the document DripRings tells. */
public final class DripRings {
    public static final int BAD = -1, STATE = -2, FULL = -3, NONE = -9;
    public static final int NO = -1000000;

    private static final int ORDERS = 5;
    private static final int LAST_NIGHT = 120;
    private static final int NIGHTS = LAST_NIGHT + 1;
    private static final int MOST_RINGS = 1000000;
    private static final int MOST_PAID = 1000000;
    private static final int MOST_PRICED = 1000000;
    private static final int MOST_SACKS = 1000;
    private static final int MOST_WEIGHT = 1000000000;
    private static final int MOST_DUE = 200;
    private static final int MOST_DUES = 6;
    private static final int MOST_NUMBER = 200;
    private static final int HEAVIEST = 99;
    private static final int IMAGES = 2;
    private static final int WITHOUT = 5;
    private static final int FAULTS = -10;

    private final Reader reader;
    private final Rings rings;
    private final Rings scratch;
    private final Past past;
    private final Rings[] images;
    private final boolean[] kept;
    private final Grave grave;
    private final Payment payment;
    private final Kinds kinds;
    private Law law;
    private Law draft;

    public DripRings() {
        reader = new Reader();
        rings = new Rings();
        scratch = new Rings();
        past = new Past();
        images = new Rings[IMAGES];
        for (int i = 0; i < IMAGES; i++) {
            images[i] = new Rings();
        }
        kept = new boolean[IMAGES];
        grave = new Grave();
        payment = new Payment();
        kinds = new Kinds();
        law = new Law();
        draft = new Law();
    }

    // ---- the ring

    public int type(int letter) {
        if (isOutside(letter, 0, 255)) {
            return BAD;
        }
        return reader.add(letter) ? reader.letters() : FULL;
    }

    public int clear() {
        return reader.wipe();
    }

    public int ring() {
        int items = reader.readInto(draft);
        if (items < 0) {
            return items;
        }
        Law read = draft;
        draft = law;
        law = read;
        reader.wipe();
        rings.startAnew();
        past.lose();
        grave.wipe();
        for (int i = 0; i < IMAGES; i++) {
            kept[i] = false;
        }
        return items;
    }

    public int order(int o, int what) {
        if (isNoOrder(o)) {
            return BAD;
        }
        switch (what) {
            case 0:
                return law.weights[o];
            case 1:
                return law.each[o];
            case 2:
                return law.drips(o) ? 1 : 0;
            case 3:
                return rings.greatestAge(o);
            default:
                return BAD;
        }
    }

    public int due(int i, int what) {
        if (isOutside(i, 0, law.dues - 1)) {
            return BAD;
        }
        switch (what) {
            case 0:
                return law.dueNights[i];
            case 1:
                return law.dueWeights[i];
            default:
                return BAD;
        }
    }

    public long now(int what) {
        switch (what) {
            case 0:
                return rings.night;
            case 1:
                return rings.lump;
            case 2:
                return rings.total();
            case 3:
                return rings.weightWithLump(law);
            case 4:
                return past.known;
            default:
                return BAD;
        }
    }

    // ---- what is done

    public long night() {
        if (rings.night >= LAST_NIGHT) {
            return STATE;
        }
        past.remember(rings);
        return rings.passNight(law);
    }

    public long swans(int o, int n) {
        if (isNoOrder(o) || isOutside(n, 1, MOST_RINGS)) {
            return BAD;
        }
        if (rings.ofOrder(o) < n) {
            return STATE;
        }
        past.remember(rings);
        rings.takeOldest(o, n);
        return (long) n * law.weights[o];
    }

    public long melts(int o, int n) {
        if (isNoOrder(o) || isOutside(n, 1, MOST_RINGS)) {
            return BAD;
        }
        if (rings.ofOrder(o) < n) {
            return STATE;
        }
        past.remember(rings);
        rings.takeOldest(o, n);
        rings.lump += (long) n * law.weights[o];
        return rings.lump;
    }

    public long pays(int w) {
        if (isOutside(w, 1, MOST_PAID)) {
            return BAD;
        }
        if (rings.lump < w) {
            return STATE;
        }
        past.remember(rings);
        rings.lump -= w;
        return rings.lump;
    }

    public int undo() {
        return past.restore(rings) ? past.known : STATE;
    }

    // ---- nights to come

    public long all(int night, int o) {
        if (isNotToCome(night) || isOutside(o, -2, ORDERS - 1)) {
            return BAD;
        }
        scratch.becomeLike(rings);
        scratch.passTo(night, law);
        if (o == -2) {
            return scratch.weightWithLump(law);
        }
        return o == -1 ? scratch.total() : scratch.ofOrder(o);
    }

    public int above(int w) {
        if (isOutside(w, 0, MOST_WEIGHT)) {
            return BAD;
        }
        scratch.becomeLike(rings);
        for (int night = rings.night; night <= LAST_NIGHT; night++) {
            scratch.passTo(night, law);
            if (scratch.weightWithLump(law) > w) {
                return night;
            }
        }
        return NONE;
    }

    public int least(int w, int o) {
        if (isOutside(w, 1, MOST_DUE) || isOutside(o, -1, ORDERS - 1)) {
            return BAD;
        }
        if (!payment.find(rings, law, w)) {
            return NONE;
        }
        return o == -1 ? payment.weight : payment.taken[o];
    }

    public int met() {
        return payDues();
    }

    public long left() {
        return payDues() == NONE ? scratch.weight(law) : NONE;
    }

    // ---- ages

    public int age(int w) {
        if (isOutside(w, 1, HEAVIEST)) {
            return BAD;
        }
        int bits = 0;
        for (int o = 0; o < ORDERS; o++) {
            if (law.weights[o] == w) {
                bits |= 1 << o;
            }
        }
        return bits;
    }

    public int first(int o, int n) {
        if (isNoOrder(o) || isOutside(n, 1, MOST_RINGS)) {
            return BAD;
        }
        scratch.startAnew();
        for (int night = 0; night <= LAST_NIGHT; night++) {
            scratch.passTo(night, law);
            if (scratch.ofOrder(o) >= n) {
                return night;
            }
        }
        return NONE;
    }

    public int lay(int o, int n) {
        if (isNoOrder(o) || isOutside(n, 0, MOST_RINGS)) {
            return BAD;
        }
        return grave.add(o, n) ? grave.told : FULL;
    }

    public int forget() {
        return grave.wipe();
    }

    public int mayBe(int what) {
        if (isOutside(what, 0, 2)) {
            return BAD;
        }
        int many = 0;
        int earliest = NONE;
        int latest = NONE;
        scratch.startAnew();
        for (int night = 0; night <= LAST_NIGHT; night++) {
            scratch.passTo(night, law);
            if (grave.fits(scratch)) {
                earliest = many == 0 ? night : earliest;
                latest = night;
                many++;
            }
        }
        if (what == 0) {
            return many;
        }
        return what == 1 ? earliest : latest;
    }

    // ---- smelters, thieves, barley

    public int smelt(int night, int w) {
        if (isNotToCome(night) || isOutside(w, 1, MOST_WEIGHT)) {
            return BAD;
        }
        scratch.becomeLike(rings);
        scratch.passTo(night, law);
        if (scratch.weightWithLump(law) <= w) {
            return WITHOUT;
        }
        for (int o = 0; o < ORDERS; o++) {
            scratch.becomeLike(rings);
            scratch.takeAll(o);
            scratch.passTo(night, law);
            if (scratch.weightWithLump(law) <= w) {
                return o;
            }
        }
        return NONE;
    }

    public long odds(int o, int what) {
        if (isNoOrder(o) || isOutside(what, 0, 1)) {
            return BAD;
        }
        long total = rings.total();
        if (total <= 0) {
            return what;
        }
        long some = rings.ofOrder(o);
        long common = greatestDivisor(total, some);
        if (common <= 0) {
            return what;
        }
        return what == 0 ? some / common : total / common;
    }

    public long barley(int b, int w) {
        if (isOutside(b, 1, MOST_SACKS) || isOutside(w, 0, MOST_PRICED)) {
            return BAD;
        }
        long gold = rings.weightWithLump(law);
        return gold <= 0 ? NONE : (long) b * w / gold;
    }

    // ---- kinds, images

    public int rate(int kind, int o) {
        return isNoOrder(o) ? NO : kinds.rateAs(kind, o, law, rings.night);
    }

    public int keep(int image) {
        if (isOutside(image, 0, IMAGES - 1)) {
            return BAD;
        }
        images[image].becomeLike(rings);
        kept[image] = true;
        return rings.night;
    }

    public int back(int image) {
        if (isOutside(image, 0, IMAGES - 1)) {
            return BAD;
        }
        if (!kept[image]) {
            return STATE;
        }
        rings.becomeLike(images[image]);
        past.lose();
        return rings.night;
    }

    public int count(int what) {
        switch (what) {
            case 0:
                return law.more;
            case 1:
                return law.later;
            case 2:
                return law.dues;
            case 3:
                return grave.told;
            case 4:
                return reader.letters();
            default:
                return BAD;
        }
    }

    public long trace() {
        return kinds.trace;
    }

    private static boolean isOutside(int number, int least, int most) {
        return number < least || number > most;
    }

    private static boolean isNoOrder(int o) {
        return isOutside(o, 0, ORDERS - 1);
    }

    private boolean isNotToCome(int night) {
        return isOutside(night, rings.night, LAST_NIGHT);
    }

    /** The first DUE that can't be met, or NONE; then the scratch rings are what is left behind the last one. */
    private int payDues() {
        int last = law.lastDueNight(rings.night);
        scratch.becomeLike(rings);
        for (int night = rings.night + 1; night <= last; night++) {
            scratch.passTo(night, law);
            int unmet = payDuesOf(night);
            if (unmet != NONE) {
                return unmet;
            }
        }
        return NONE;
    }

    private int payDuesOf(int night) {
        for (int i = 0; i < law.dues; i++) {
            if (law.dueNights[i] == night) {
                if (!payment.find(scratch, law, law.dueWeights[i])) {
                    return i;
                }
                payment.takeFrom(scratch);
            }
        }
        return NONE;
    }

    private static long greatestDivisor(long a, long b) {
        long upper = a;
        long lower = b;
        // Euclid's steps on numbers of 63 bits are fewer than 100.
        for (int step = 0; step < 1000 && lower != 0; step++) {
            long rest = upper % lower;
            upper = lower;
            lower = rest;
        }
        return upper;
    }

    /** What the text tells: WEIGHTS, MORE, EACH, LATER, DUES. */
    private static final class Law {
        final int[] weights = new int[ORDERS];
        final int[] each = new int[ORDERS];
        final int[] dueNights = new int[MOST_DUES];
        final int[] dueWeights = new int[MOST_DUES];
        int dues;
        int heaviest;
        int more;
        int often;
        int later;
        int partA;
        int partB;

        Law() {
            becomeAsAtFirst();
            workOut();
        }

        void becomeAsAtFirst() {
            heaviest = 81;
            more = 8;
            often = 9;
            later = 0;
            partA = 1;
            partB = 3;
            dues = 0;
        }

        void addDue(int night, int weight) {
            if (dues < MOST_DUES) {
                dueNights[dues] = night;
                dueWeights[dues] = weight;
                dues++;
            }
        }

        /** The WEIGHT and EACH of all ORDERS, from what is told of the first. */
        void workOut() {
            int weight = heaviest;
            for (int o = 0; o < ORDERS; o++) {
                weights[o] = weight;
                each[o] = often + o * later;
                weight = partB > 0 ? weight * partA / partB : 0;
            }
        }

        boolean drips(int o) {
            return o >= 0 && o < ORDERS - 1 && weights[o + 1] > 0;
        }

        /** The NIGHT of the last DUE behind now, or now if there is none. */
        int lastDueNight(int now) {
            int last = now;
            for (int i = 0; i < dues; i++) {
                last = Math.max(last, dueNights[i]);
            }
            return last;
        }
    }

    /** The NIGHT, LUMP and the rings: how many of each ORDER had their first NIGHT on which. */
    private static final class Rings {
        // The row of ORDER o lies from o * NIGHTS on.
        final long[] born = new long[ORDERS * NIGHTS];
        int night;
        long lump;

        Rings() {
            startAnew();
        }

        void startAnew() {
            Arrays.fill(born, 0L);
            born[0] = 1L;
            night = 0;
            lump = 0L;
        }

        void becomeLike(Rings other) {
            System.arraycopy(other.born, 0, born, 0, ORDERS * NIGHTS);
            night = other.night;
            lump = other.lump;
        }

        /** The next NIGHT: how many rings drip on it. */
        long passNight(Law law) {
            if (night >= LAST_NIGHT) {
                return 0L;
            }
            night++;
            long all = 0L;
            for (int o = 0; o < ORDERS - 1; o++) {
                if (law.drips(o)) {
                    long some = dripping(o, law.each[o]);
                    born[(o + 1) * NIGHTS + night] = some * law.more;
                    all += some;
                }
            }
            return all;
        }

        private long dripping(int o, int each) {
            int step = Math.max(1, each);
            long some = 0L;
            for (int b = night - step; b >= 0; b -= step) {
                some += born[o * NIGHTS + b];
            }
            return some;
        }

        void passTo(int to, Law law) {
            for (int n = night; n < to; n++) {
                passNight(law);
            }
        }

        long ofOrder(int o) {
            long some = 0L;
            for (int b = 0; b <= night; b++) {
                some += born[o * NIGHTS + b];
            }
            return some;
        }

        long total() {
            long sum = 0L;
            for (int o = 0; o < ORDERS; o++) {
                sum += ofOrder(o);
            }
            return sum;
        }

        long weight(Law law) {
            long sum = 0L;
            for (int o = 0; o < ORDERS; o++) {
                sum += ofOrder(o) * law.weights[o];
            }
            return sum;
        }

        long weightWithLump(Law law) {
            return weight(law) + lump;
        }

        int greatestAge(int o) {
            for (int b = 0; b <= night; b++) {
                if (born[o * NIGHTS + b] > 0) {
                    return night - b;
                }
            }
            return NONE;
        }

        void takeOldest(int o, long n) {
            long rest = n;
            for (int b = 0; b <= night && rest > 0; b++) {
                long some = Math.min(rest, born[o * NIGHTS + b]);
                born[o * NIGHTS + b] -= some;
                rest -= some;
            }
        }

        void takeAll(int o) {
            Arrays.fill(born, o * NIGHTS, (o + 1) * NIGHTS, 0L);
        }
    }

    /** What can be UNDONE: how it was ahead of each of the latest deeds, in a round of places. */
    private static final class Past {
        private static final int MOST = 8;
        private final Rings[] rounds = new Rings[MOST];
        private int next;
        int known;

        Past() {
            for (int i = 0; i < MOST; i++) {
                rounds[i] = new Rings();
            }
        }

        void remember(Rings rings) {
            rounds[next].becomeLike(rings);
            next = next + 1 < MOST ? next + 1 : 0;
            known = Math.min(known + 1, MOST);
        }

        boolean restore(Rings rings) {
            if (known == 0) {
                return false;
            }
            next = next > 0 ? next - 1 : MOST - 1;
            known--;
            rings.becomeLike(rounds[next]);
            return true;
        }

        void lose() {
            known = 0;
        }
    }

    /** What was told of the GRAVE. */
    private static final class Grave {
        private static final int MOST = 5;
        private final int[] orders = new int[MOST];
        private final int[] numbers = new int[MOST];
        int told;

        boolean add(int o, int n) {
            if (told >= MOST) {
                return false;
            }
            orders[told] = o;
            numbers[told] = n;
            told++;
            return true;
        }

        int wipe() {
            int were = told;
            told = 0;
            return were;
        }

        boolean fits(Rings rings) {
            for (int i = 0; i < told; i++) {
                if (rings.ofOrder(orders[i]) != numbers[i]) {
                    return false;
                }
            }
            return true;
        }
    }

    /** LEAST: which rings weigh together so much at least, and as little as can be. */
    private static final class Payment {
        // Without any one of its rings the least would be too light: it is below the due and the heaviest ring.
        private static final int SUMS = MOST_DUE + HEAVIEST;
        // Of a sum that rings of ORDERS 0 .. o can weigh, the fewest of o by which they do; or -1.
        private final int[][] fewest = new int[ORDERS][SUMS];
        final int[] taken = new int[ORDERS];
        int weight;

        boolean find(Rings rings, Law law, int w) {
            for (int o = 0; o < ORDERS; o++) {
                fill(o, rings.ofOrder(o), law.weights[o]);
            }
            for (int sum = w; sum < SUMS; sum++) {
                if (canWeigh(ORDERS - 1, sum)) {
                    weight = sum;
                    choose(rings, law);
                    return true;
                }
            }
            return false;
        }

        private boolean canWeigh(int o, int sum) {
            return o < 0 ? sum == 0 : fewest[o][sum] >= 0;
        }

        private void fill(int o, long have, int each) {
            for (int sum = 0; sum < SUMS; sum++) {
                int some = -1;
                if (canWeigh(o - 1, sum)) {
                    some = 0;
                } else if (each > 0 && sum >= each) {
                    int before = fewest[o][sum - each];
                    some = before >= 0 && before < have ? before + 1 : -1;
                }
                fewest[o][sum] = some;
            }
        }

        /** As many of ORDER 4 as can be, then of 3, ..: what is left must be weighed by the ORDERS below. */
        private void choose(Rings rings, Law law) {
            int rest = weight;
            for (int o = ORDERS - 1; o >= 0; o--) {
                int each = law.weights[o];
                int most = each > 0 ? (int) Math.min(rings.ofOrder(o), rest / each) : 0;
                taken[o] = 0;
                for (int n = most; n > 0; n--) {
                    if (canWeigh(o - 1, rest - n * each)) {
                        taken[o] = n;
                        break;
                    }
                }
                rest -= taken[o] * each;
            }
        }

        void takeFrom(Rings rings) {
            for (int o = 0; o < ORDERS; o++) {
                rings.takeOldest(o, taken[o]);
            }
        }
    }

    /** What a KIND's body answers for an ORDER, and THE TRACE of the bodies that were asked. */
    private static final class Kinds {
        long trace;

        int rateAs(int kind, int o, Law law, int night) {
            switch (kind) {
                case 0:
                    return asRing(o, law);
                case 1:
                    return asBroken(o, law);
                case 2:
                    return asBarren(o, law);
                case 3:
                    return asTwin(o, law);
                case 4:
                    return asDust(o, law);
                case 5:
                    return asPledged(o, law, night);
                default:
                    return NO;
            }
        }

        private int asRing(int o, Law law) {
            trace += 1;
            return law.weights[o];
        }

        private int asBroken(int o, Law law) {
            trace += 10;
            return asRing(o, law) + law.more;
        }

        private int asBarren(int o, Law law) {
            trace += 100;
            return asRing(o, law) - law.each[o];
        }

        private int asTwin(int o, Law law) {
            trace += 1000;
            return 2 * asBroken(o, law);
        }

        private int asDust(int o, Law law) {
            trace += 10000;
            return asBarren(o, law) + o;
        }

        private int asPledged(int o, Law law, int night) {
            trace += 100000;
            return asRing(o, law) + night;
        }
    }

    /** THE TEXT, and how it is read: cut into TOKENS first, then item by item up to the first that can't stand. */
    private static final class Reader {
        private static final int MOST = 200;
        private static final int END = -1, NUMBER = -2, WRONG = -3;
        private final int[] text = new int[MOST];
        // One place more than letters, for the END.
        private final int[] tokens = new int[MOST + 1];
        private final int[] starts = new int[MOST + 1];
        private final int[] values = new int[MOST + 1];
        private int length;
        private int here;
        private boolean faulty;
        private boolean hadR;
        private boolean hadL;
        private boolean hadT;

        int letters() {
            return length;
        }

        boolean add(int letter) {
            if (length >= MOST) {
                return false;
            }
            text[length] = letter;
            length++;
            return true;
        }

        int wipe() {
            int were = length;
            length = 0;
            return were;
        }

        /** How many ITEMS; -10 less FAULT, and then the law is not fit for use. */
        int readInto(Law law) {
            cut();
            law.becomeAsAtFirst();
            here = 0;
            hadR = false;
            hadL = false;
            hadT = false;
            int items = 0;
            while (items < MOST && tokens[here] != END) {
                readItem(law);
                if (faulty) {
                    return FAULTS - starts[here];
                }
                items++;
            }
            law.workOut();
            return items;
        }

        private void readItem(Law law) {
            switch (tokens[here]) {
                case 'r':
                    readRing(law);
                    break;
                case 'l':
                    readLess(law);
                    break;
                case 't':
                    readLater(law);
                    break;
                case 'p':
                    readDue(law);
                    break;
                default:
                    faulty = true;
                    break;
            }
            pass(';');
        }

        private void readRing(Law law) {
            faulty = hadR;
            hadR = true;
            pass('r');
            law.heaviest = readNumber(1, HEAVIEST);
            law.more = readNumber(1, 9);
            law.often = readNumber(1, 20);
        }

        private void readLess(Law law) {
            faulty = hadL;
            hadL = true;
            pass('l');
            law.partA = readNumber(1, 8);
            law.partB = readNumber(law.partA + 1, 9);
        }

        private void readLater(Law law) {
            faulty = hadT;
            hadT = true;
            pass('t');
            law.later = readNumber(0, 9);
        }

        private void readDue(Law law) {
            faulty = law.dues >= MOST_DUES;
            pass('p');
            int night = readNumber(1, LAST_NIGHT);
            int weight = readNumber(1, MOST_DUE);
            law.addDue(night, weight);
        }

        private int readNumber(int least, int most) {
            int number = values[here];
            faulty = faulty || isOutside(number, least, most);
            pass(NUMBER);
            return number;
        }

        /** Goes behind the token that is due, never behind the END; behind a fault nothing is read any more. */
        private void pass(int due) {
            faulty = faulty || tokens[here] != due;
            if (!faulty && here < MOST) {
                here++;
            }
        }

        private void cut() {
            int some = 0;
            boolean inNumber = false;
            for (int at = 0; at < length; at++) {
                boolean digit = isDigit(text[at]);
                if (digit && inNumber) {
                    lengthen(some - 1, text[at] - '0');
                } else if (digit) {
                    put(some, NUMBER, at, text[at] - '0');
                    some++;
                } else if (text[at] != ' ') {
                    put(some, isSign(text[at]) ? text[at] : WRONG, at, 0);
                    some++;
                }
                inNumber = digit;
            }
            put(some, END, length, 0);
        }

        /** One more digit of the NUMBER at that place. */
        private void lengthen(int place, int digit) {
            boolean ledByZero = values[place] == 0;
            // What is above 200 needs not be told apart, and so can't run over.
            values[place] = Math.min(values[place] * 10 + digit, MOST_NUMBER + 1);
            if (ledByZero || values[place] > MOST_NUMBER) {
                tokens[place] = WRONG;
            }
        }

        private void put(int place, int token, int start, int value) {
            tokens[place] = token;
            starts[place] = start;
            values[place] = value;
        }

        private static boolean isDigit(int letter) {
            return letter >= '0' && letter <= '9';
        }

        private static boolean isSign(int letter) {
            return letter == 'r' || letter == 'l' || letter == 't' || letter == 'p' || letter == ';';
        }
    }
}

/** Each promise of the document: ordinary calls, the edges that it names, and what is refused. */
public final class PromisesTest {
    private static final int BAD = -1;
    private static final int STATE = -2;
    private static final int FULL = -3;
    private static final int NONE = -9;
    private static final int NO = -1000000;
    private static final int[] WILD = {Integer.MIN_VALUE, Integer.MIN_VALUE + 1, -1000001, -1000000, -100, -10, -9, -4,
        1000000001, Integer.MAX_VALUE - 1, Integer.MAX_VALUE};

    public static void main(String[] args) {
        newObject();
        type();
        clear();
        ring();
        ringFaults();
        ringTellsAllAnew();
        ringAgainAndAgain();
        order();
        due();
        now();
        night();
        swans();
        melts();
        pays();
        undo();
        all();
        above();
        least();
        leastOfEqualOnes();
        met();
        metTakesTheOldest();
        left();
        age();
        first();
        lay();
        forget();
        mayBe();
        smelt();
        odds();
        barley();
        rate();
        keep();
        back();
        count();
        trace();
        greatNumbers();
        wildNumbers();
        Check.end();
    }

    private static void due(String call, long got, long want) {
        Check.due(call, got, want);
    }

    private static void type(DripRings x, String told) {
        for (int i = 0; i < told.length(); i++) {
            x.type(told.charAt(i));
        }
    }

    private static DripRings told(String text) {
        DripRings x = new DripRings();
        type(x, text);
        Check.holds("ring() of " + text, x.ring() >= 0);
        return x;
    }

    private static void nights(DripRings x, int n) {
        for (int i = 0; i < n; i++) {
            x.night();
        }
    }

    // ---- the ring

    private static void newObject() {
        DripRings x = new DripRings();
        int[] weights = {81, 27, 9, 3, 1};
        for (int o = 0; o < 5; o++) {
            due("new: weight of " + o, x.order(o, 0), weights[o]);
            due("new: EACH of " + o, x.order(o, 1), 9);
            due("new: drips " + o, x.order(o, 2), o < 4 ? 1 : 0);
            due("new: oldest " + o, x.order(o, 3), o == 0 ? 0 : NONE);
        }
        long[] now = {0, 0, 1, 81, 0};
        int[] counts = {8, 0, 0, 0, 0};
        for (int what = 0; what < 5; what++) {
            due("new: now(" + what + ")", x.now(what), now[what]);
            due("new: count(" + what + ")", x.count(what), counts[what]);
        }
        due("new: trace", x.trace(), 0);
        due("new: back(0)", x.back(0), STATE);
        due("new: back(1)", x.back(1), STATE);
        due("new: undo()", x.undo(), STATE);
        due("new: due(0, 0)", x.due(0, 0), BAD);
    }

    private static void type() {
        DripRings x = new DripRings();
        due("type(0)", x.type(0), 1);
        due("type(255)", x.type(255), 2);
        due("type(256)", x.type(256), BAD);
        due("type(-1)", x.type(-1), BAD);
        due("letters", x.count(4), 2);
        for (int i = 3; i <= 200; i++) {
            due("type 32", x.type(32), i);
        }
        due("the 201st letter", x.type(32), FULL);
        due("BAD goes ahead of FULL", x.type(256), BAD);
        due("letters behind FULL", x.count(4), 200);
    }

    private static void clear() {
        DripRings x = new DripRings();
        due("clear() of none", x.clear(), 0);
        type(x, "r 1");
        due("clear() of 3", x.clear(), 3);
        due("clear() again", x.clear(), 0);
        due("letters", x.count(4), 0);
        type(x, "t1;");
        due("what was cleared is gone", x.ring(), 1);
        due("LATER", x.count(1), 1);
    }

    private static void ring() {
        DripRings x = told("r 60 2 5;l 2 3;t 4;p 10 20;p 5 7;");
        int[] weights = {60, 40, 26, 17, 11};
        for (int o = 0; o < 5; o++) {
            due("weight " + o, x.order(o, 0), weights[o]);
            due("EACH " + o, x.order(o, 1), 5 + 4 * o);
        }
        due("MORE", x.count(0), 2);
        due("LATER", x.count(1), 4);
        due("DUES", x.count(2), 2);
        due("the text is empty", x.count(4), 0);
        due("the first ring weighs", x.now(3), 60);

        due("items in any order", items("p1 1;t0;p120 200;l8 9;p2 2;r99 9 20;"), 6);
        due("no items", items(""), 0);
        due("blanks alone", items("   "), 0);
        due("blanks all over", items("  r  1   1  1  ;  t 9 ;  "), 2);
        due("no blanks but between numbers", items("r1 1 1;l1 2;t0;p1 1;"), 4);
        due("the least numbers", items("r 1 1 1;l 1 2;t 0;p 1 1;"), 4);
        due("the greatest numbers", items("r 99 9 20;l 8 9;t 9;p 120 200;"), 4);
        due("six dues", items("p1 1;p1 1;p1 1;p1 1;p1 1;p1 1;"), 6);
        DripRings full = new DripRings();
        type(full, " ".repeat(197) + "t5;");
        due("a full text", full.ring(), 1);
        due("a full text is read to its end", full.count(1), 5);
    }

    private static int items(String text) {
        DripRings x = new DripRings();
        type(x, text);
        return x.ring();
    }

    private static void fault(String text, int place) {
        DripRings x = new DripRings();
        x.night();
        x.keep(0);
        x.lay(0, 1);
        type(x, text);
        due("ring() of " + text, x.ring(), -10 - place);
        due("the text stays: " + text, x.count(4), text.length());
        due("the NIGHT stays: " + text, x.now(0), 1);
        due("UNDONE stays: " + text, x.now(4), 1);
        due("the weight stays: " + text, x.order(0, 0), 81);
        due("the next weight stays: " + text, x.order(1, 0), 27);
        due("EACH stays: " + text, x.order(4, 1), 9);
        due("MORE stays: " + text, x.count(0), 8);
        due("LATER stays: " + text, x.count(1), 0);
        due("DUES stay: " + text, x.count(2), 0);
        due("the GRAVE stays: " + text, x.count(3), 1);
        due("the IMAGE stays: " + text, x.back(0), 1);
    }

    private static void ringFaults() {
        fault("x", 0);
        fault("R 1 1 1;", 0);
        fault("  -", 2);
        fault(";", 0);
        fault("5;", 0);
        fault("t1;;", 3);
        fault("t1;5", 3);
        fault("r", 1);
        fault("r ", 2);
        fault("r 5 5 5", 7);
        fault("r 5 5 5  ", 9);
        fault("r 5 5;", 5);
        fault("r 5 5 5 5;", 8);
        fault("r r 5 5;", 2);
        fault("r 0 1 1;", 2);
        fault("r 100 1 1;", 2);
        fault("r 9 0 1;", 4);
        fault("r 9 10 1;", 4);
        fault("r 9 9 0;", 6);
        fault("r 9 9 21;", 6);
        fault("r 05 1 1;", 2);
        fault("r 5 5 5;r 5 5 5;", 8);
        fault("r 5 5 5 ; t 1 ; r", 16);
        fault("l 0 5;", 2);
        fault("l 9 9;", 2);
        fault("l 3 3;", 4);
        fault("l 3 2;", 4);
        fault("l 3 0;", 4);
        fault("l 8 10;", 4);
        fault("l 1 2;l 1 2;", 6);
        fault("l 1;", 3);
        fault("t 10;", 2);
        fault("t 00;", 2);
        fault("t;", 1);
        fault("t 1;t 1;", 4);
        fault("p 0 1;", 2);
        fault("p 121 1;", 2);
        fault("p 1 0;", 4);
        fault("p 1 201;", 4);
        fault("p 1 99999999999999999999;", 4);
        fault("p 1 4294967297;", 4);
        fault("p1 1;p1 1;p1 1;p1 1;p1 1;p1 1; p", 31);
        fault("t1x;", 2);
        fault("t 1" + (char) 9 + ";", 3);
        fault("t 1" + (char) 0 + ";", 3);
        fault("t 1" + (char) 255 + ";", 3);
        fault("r 9 9 300;x", 6);
        fault("t t x", 2);
        fault("r 5 5 5;l 1 2;t 1;p 9 9;t", 24);
        fault("p 3 3;p 3 3", 11);
        DripRings full = new DripRings();
        type(full, " ".repeat(198) + "t5");
        due("a full text that ends too early", full.ring(), -210);
        DripRings signs = new DripRings();
        type(signs, ";".repeat(200));
        due("a text of 200 TOKENS", signs.ring(), -10);
        due("it stays", signs.clear(), 200);
        type(signs, "t1;" + "p1 1;".repeat(6) + "r".repeat(167));
        due("a text of 200 letters", signs.count(4), 200);
        due("the second r of it", signs.ring(), -10 - 34);
    }

    private static void ringTellsAllAnew() {
        DripRings x = told("r 60 2 5;l 2 3;t 4;p 10 20;");
        nights(x, 5);
        x.melts(1, 1);
        x.keep(0);
        x.keep(1);
        x.lay(0, 1);
        x.rate(0, 0);
        due("ring() of an empty text", x.ring(), 0);
        due("WEIGHT as at first", x.order(0, 0), 81);
        due("next WEIGHT as at first", x.order(1, 0), 27);
        due("EACH as at first", x.order(3, 1), 9);
        due("MORE as at first", x.count(0), 8);
        due("LATER as at first", x.count(1), 0);
        due("no DUES", x.count(2), 0);
        due("no GRAVE", x.count(3), 0);
        due("NIGHT 0", x.now(0), 0);
        due("no LUMP", x.now(1), 0);
        due("the first ring alone", x.now(2), 1);
        due("nothing UNDONE", x.undo(), STATE);
        due("image 0 is gone", x.back(0), STATE);
        due("image 1 is gone", x.back(1), STATE);
        due("THE TRACE stays", x.trace(), 1);
        due("the first one's age", x.order(0, 3), 0);
        nights(x, 8);
        due("no ring of before comes again", x.now(2), 1);
    }

    private static void ringAgainAndAgain() {
        DripRings x = told("t 4;p 10 20;r 9 2 5;l 2 3;");
        type(x, "r 7 7 7; t 6; p 1 1; l 3 x");
        due("a fault behind items that can stand", x.ring(), -10 - 25);
        due("WEIGHT as told before", x.order(0, 0), 9);
        due("next WEIGHT as told before", x.order(1, 0), 6);
        due("LATER as told before", x.count(1), 4);
        due("DUES as told before", x.count(2), 1);
        due("the DUE as told before", x.due(0, 0), 10);
        due("again the same fault", x.ring(), -10 - 25);
        x.clear();
        type(x, "r 8 2 5; t 3; l 1 4;");
        due("each may be told again, once", x.ring(), 3);
        due("WEIGHT", x.order(0, 0), 8);
        due("no DUES", x.count(2), 0);
        due("a third time", x.ring(), 0);
        due("no LATER", x.count(1), 0);
        type(x, "p 7 7;");
        due("a fourth time", x.ring(), 1);
        due("no LATER still", x.count(1), 0);
        due("WEIGHT as at first", x.order(0, 0), 81);
        due("one DUE", x.count(2), 1);
        due("the new DUE", x.due(0, 0), 7);
    }

    private static void order() {
        DripRings x = told("r 9 3 4;l 1 3;t 2;");
        int[] weights = {9, 3, 1, 0, 0};
        int[] drips = {1, 1, 0, 0, 0};
        for (int o = 0; o < 5; o++) {
            due("order(" + o + ", 0)", x.order(o, 0), weights[o]);
            due("order(" + o + ", 1)", x.order(o, 1), 4 + 2 * o);
            due("order(" + o + ", 2)", x.order(o, 2), drips[o]);
        }
        nights(x, 8);
        due("oldest of 0", x.order(0, 3), 8);
        due("oldest of 1", x.order(1, 3), 4);
        due("oldest of 2", x.order(2, 3), NONE);
        x.swans(1, 3);
        due("the oldest are thrown", x.order(1, 3), 0);
        due("ORDER 5", x.order(5, 0), BAD);
        due("ORDER -1", x.order(-1, 0), BAD);
        due("what 4", x.order(0, 4), BAD);
        due("what -1", x.order(0, -1), BAD);
        due("the last ORDER never drips", told("r 99 1 1;l 8 9;").order(4, 2), 0);
        due("ORDER 3 drips what weighs 1", told("r 16 1 1;l 1 2;").order(3, 2), 1);
        due("ORDER 3 drips nothing that weighs 0", told("r 15 1 1;l 1 2;").order(3, 2), 0);
    }

    private static void due() {
        DripRings x = told("p 120 200;p 1 1;");
        due("due(0, 0)", x.due(0, 0), 120);
        due("due(0, 1)", x.due(0, 1), 200);
        due("due(1, 0)", x.due(1, 0), 1);
        due("due(1, 1)", x.due(1, 1), 1);
        due("due(2, 0)", x.due(2, 0), BAD);
        due("due(-1, 0)", x.due(-1, 0), BAD);
        due("due(0, 2)", x.due(0, 2), BAD);
        due("due(0, -1)", x.due(0, -1), BAD);
        DripRings six = told("p1 2;p3 4;p5 6;p7 8;p9 10;p11 12;");
        due("the sixth", six.due(5, 1), 12);
        due("a seventh", six.due(6, 1), BAD);
    }

    private static void now() {
        DripRings x = new DripRings();
        nights(x, 9);
        x.melts(1, 3);
        x.pays(1);
        long[] now = {9, 80, 6, 81 + 5 * 27 + 80, 8};
        for (int what = 0; what < 5; what++) {
            due("now(" + what + ")", x.now(what), now[what]);
        }
        due("now(5)", x.now(5), BAD);
        due("now(-1)", x.now(-1), BAD);
    }

    // ---- what is done

    private static void night() {
        DripRings x = told("r 50 2 3;l 1 2;t 1;");
        // ORDER 0 drips each 3rd night, 1 each 4th, 2 each 5th of its own age; 25, 12, 6, 3 weigh the others.
        long[] dripped = {0, 0, 1, 0, 0, 1, 2, 0, 1, 2};
        for (int i = 0; i < dripped.length; i++) {
            due("NIGHT " + (i + 1), x.night(), dripped[i]);
        }
        due("of 1", x.all(10, 1), 6);
        due("of 2", x.all(10, 2), 8);
        due("of 3", x.all(10, 3), 0);
        due("NIGHT 11", x.night(), 2);
        due("NIGHT 12: 1, 4 of ORDER 2 and the 2 of NIGHT 6 have ages 5", x.night(), 1 + 4);
        due("of 3 then", x.all(12, 3), 8);

        DripRings still = told("r 1 9 1;");
        for (int i = 0; i < 120; i++) {
            due("what would weigh 0 is not dripped", still.night(), 0);
        }
        due("NIGHT 120", still.now(0), 120);
        due("no 121st", still.night(), STATE);
        due("NIGHT 120 still", still.now(0), 120);
        due("refused is not UNDONE", still.now(4), 8);
    }

    private static void swans() {
        DripRings x = new DripRings();
        nights(x, 18);
        due("swans(1, 9)", x.swans(1, 9), 243);
        due("the youngest stay", x.order(1, 3), 0);
        due("swans(1, 8)", x.swans(1, 8), STATE);
        due("swans(1, 7)", x.swans(1, 7), 189);
        due("none there", x.swans(1, 1), STATE);
        due("none of 3", x.swans(3, 1), STATE);
        due("n 0", x.swans(2, 0), BAD);
        due("n above", x.swans(2, 1000001), BAD);
        due("n at most", x.swans(2, 1000000), STATE);
        due("ORDER 5", x.swans(5, 1), BAD);
        due("ORDER -1", x.swans(-1, 1), BAD);
        due("BAD ahead of STATE", x.swans(1, 0), BAD);
        due("LUMP is not of it", x.now(1), 0);
        due("8 known", x.now(4), 8);
        due("what weighs", x.now(3), 81 + 64 * 9);
        due("swans(0, 1)", x.swans(0, 1), 81);
        due("ORDER 0 gone", x.night(), 0);
        nights(x, 8);
        due("no more of 1", x.all(27, 1), 0);
        due("of 3", x.all(27, 3), 512);
    }

    private static void melts() {
        DripRings x = new DripRings();
        nights(x, 18);
        due("melts(1, 9)", x.melts(1, 9), 243);
        due("the youngest stay", x.order(1, 3), 0);
        due("melts(0, 1)", x.melts(0, 1), 324);
        due("melts(0, 1) again", x.melts(0, 1), STATE);
        due("n 0", x.melts(1, 0), BAD);
        due("n above", x.melts(1, 1000001), BAD);
        due("n too many", x.melts(1, 8), STATE);
        due("n at most", x.melts(1, 1000000), STATE);
        due("ORDER 5", x.melts(5, 1), BAD);
        due("ORDER -1", x.melts(-1, 1), BAD);
        due("LUMP", x.now(1), 324);
        due("it weighs on", x.now(3), 324 + 7 * 27 + 64 * 9);
        due("LUMP drips nothing", x.all(27, 2), 64 + 7 * 8);
    }

    private static void pays() {
        DripRings x = new DripRings();
        due("nothing to pay of", x.pays(1), STATE);
        x.melts(0, 1);
        due("pays(0)", x.pays(0), BAD);
        due("pays(-1)", x.pays(-1), BAD);
        due("pays(1000001)", x.pays(1000001), BAD);
        due("pays(1000000)", x.pays(1000000), STATE);
        due("pays(82)", x.pays(82), STATE);
        due("pays(80)", x.pays(80), 1);
        due("pays(1)", x.pays(1), 0);
        due("pays(1) again", x.pays(1), STATE);
        due("now(4)", x.now(4), 3);
    }

    private static void undo() {
        DripRings x = new DripRings();
        due("undo() of none", x.undo(), STATE);
        nights(x, 18);
        x.swans(1, 9);
        x.melts(2, 2);
        x.pays(5);
        x.pays(1000000);
        x.swans(3, 1);
        x.melts(9, 1);
        due("8 known", x.now(4), 8);
        due("pays back", x.undo(), 7);
        due("LUMP", x.now(1), 18);
        due("melts back", x.undo(), 6);
        due("LUMP", x.now(1), 0);
        due("of 2", x.all(18, 2), 64);
        due("swans back", x.undo(), 5);
        due("of 1", x.all(18, 1), 16);
        due("the oldest of 1", x.order(1, 3), 9);
        due("night back", x.undo(), 4);
        due("NIGHT 17", x.now(0), 17);
        due("of 2 then", x.all(17, 2), 0);
        due("what is to come is as it was", x.night(), 9);
        due("known again", x.now(4), 5);
        for (int left = 4; left >= 0; left--) {
            due("undo()", x.undo(), left);
        }
        due("older ones are lost", x.undo(), STATE);
        due("NIGHT 13", x.now(0), 13);
        DripRings y = new DripRings();
        y.type(32);
        y.lay(0, 1);
        y.keep(0);
        y.night();
        y.rate(0, 0);
        due("undo()", y.undo(), 0);
        due("the text stays", y.count(4), 1);
        due("the GRAVE stays", y.count(3), 1);
        due("THE TRACE stays", y.trace(), 1);
        due("the IMAGE stays", y.back(0), 0);
    }

    // ---- nights to come

    private static void all() {
        DripRings x = new DripRings();
        nights(x, 9);
        x.melts(1, 3);
        due("all(9, 0)", x.all(9, 0), 1);
        due("all(9, 1)", x.all(9, 1), 5);
        due("all(9, -1)", x.all(9, -1), 6);
        due("all(9, -2)", x.all(9, -2), 81 + 5 * 27 + 81);
        due("all(17, 2)", x.all(17, 2), 0);
        due("all(18, 2)", x.all(18, 2), 40);
        due("all(18, -1)", x.all(18, -1), 54);
        due("all(18, -2)", x.all(18, -2), 81 + 13 * 27 + 40 * 9 + 81);
        due("nothing is changed", x.now(0), 9);
        due("no rings more", x.now(2), 6);
        due("behind NOW", x.all(8, 0), BAD);
        due("NIGHT 121", x.all(121, 0), BAD);
        due("NIGHT 120", x.all(120, 0), 1);
        due("o 5", x.all(9, 5), BAD);
        due("o -3", x.all(9, -3), BAD);
        due("o 4", x.all(9, 4), 0);
    }

    private static void above() {
        DripRings x = new DripRings();
        due("above(0)", x.above(0), 0);
        due("above(80)", x.above(80), 0);
        due("above(81)", x.above(81), 9);
        due("above(296)", x.above(296), 9);
        due("above(297)", x.above(297), 18);
        due("above(1088)", x.above(1088), 18);
        due("above(1089)", x.above(1089), 27);
        due("above all", x.above(3415753), NONE);
        due("just above", x.above(3415752), 117);
        due("above(1000000000)", x.above(1000000000), NONE);
        due("above(1000000001)", x.above(1000000001), BAD);
        due("above(-1)", x.above(-1), BAD);
        nights(x, 9);
        due("NOW at the earliest", x.above(0), 9);
        x.melts(0, 1);
        due("LUMP, too", x.above(296), 9);
        x.pays(81);
        due("without", x.above(216), 18);
        DripRings none = new DripRings();
        none.swans(0, 1);
        due("nothing weighs nothing", none.above(0), NONE);
        DripRings last = told("r 1 1 1;");
        nights(last, 120);
        due("on NIGHT 120", last.above(0), 120);
        due("no more on NIGHT 120", last.above(1), NONE);
        due("nothing is changed", x.now(0), 9);
    }

    private static void least() {
        DripRings x = new DripRings();
        due("least(81, -1)", x.least(81, -1), 81);
        due("least(1, -1)", x.least(1, -1), 81);
        due("least(1, 0)", x.least(1, 0), 1);
        due("least(82, -1)", x.least(82, -1), NONE);
        due("least(82, 3)", x.least(82, 3), NONE);
        nights(x, 9);
        due("8 of 27", x.least(200, -1), 216);
        due("8 of 27, of 1", x.least(200, 1), 8);
        x.swans(1, 6);
        due("81 and 2 of 27", x.least(109, -1), 135);
        due("81 and 2 of 27, of 0", x.least(109, 0), 1);
        due("81 and 2 of 27, of 1", x.least(109, 1), 2);
        due("135 at most", x.least(136, -1), NONE);
        x.melts(0, 1);
        due("LUMP is not asked", x.least(55, -1), NONE);
        due("w 0", x.least(0, 0), BAD);
        due("w 201", x.least(201, 0), BAD);
        due("o 5", x.least(1, 5), BAD);
        due("o -2", x.least(1, -2), BAD);
        due("BAD ahead of NONE", x.least(200, 5), BAD);
        due("nothing is changed", x.now(2), 2);
    }

    private static void leastOfEqualOnes() {
        // WEIGHTS 8, 4, 2; on NIGHT 11 there are 1, 11, 1 of them: ORDER 1 drips on its tenth NIGHT.
        DripRings x = told("r 8 1 1;l 1 2;t 9;");
        nights(x, 11);
        due("of 0", x.all(11, 0), 1);
        due("of 1", x.all(11, 1), 11);
        due("of 2: of NIGHT 11", x.all(11, 2), 1);
        due("least 12", x.least(12, -1), 12);
        due("the one of 2 would weigh too much beside", x.least(12, 2), 0);
        due("three of 1, not one of 0 and 1 of 1", x.least(12, 1), 3);
        due("none of 0", x.least(12, 0), 0);
        due("least 9 is 10: 2 of 1 and 1 of 2", x.least(9, -1), 10);
        due("least 9, of 2", x.least(9, 2), 1);
        due("least 9, of 1", x.least(9, 1), 2);
        due("least 9, of 0", x.least(9, 0), 0);
        due("least 54: all", x.least(54, -1), 54);
        due("least 54, of 0", x.least(54, 0), 1);
        due("least 55", x.least(55, -1), NONE);

        // 90, 45: 90 weighs so much as two of 45; one of 45 alone is there.
        DripRings y = told("r 90 1 3;l 1 2;");
        nights(y, 3);
        due("90 alone", y.least(90, 0), 1);
        due("none of 45", y.least(90, 1), 0);
        nights(y, 3);
        due("two of 45", y.least(90, 1), 2);
        due("none of 90", y.least(90, 0), 0);

        // On NIGHT 4: 1, 4, 6, 4, 1 rings of 16, 8, 4, 2, 1.
        DripRings z = told("r 16 1 1;l 1 2;");
        nights(z, 4);
        int[] of17 = {0, 0, 2, 4, 1};
        int[] of16 = {0, 0, 2, 4, 0};
        int[] of81 = {1, 4, 6, 4, 1};
        due("17", z.least(17, -1), 17);
        due("16", z.least(16, -1), 16);
        due("81: all", z.least(81, -1), 81);
        for (int o = 0; o < 5; o++) {
            due("17, of " + o, z.least(17, o), of17[o]);
            due("16, of " + o, z.least(16, o), of16[o]);
            due("81, of " + o, z.least(81, o), of81[o]);
        }
        due("82", z.least(82, -1), NONE);

        // 99, two of 88, 78: what is least may lie far above what is asked.
        DripRings heavy = told("r 99 1 20;l 8 9;");
        nights(heavy, 40);
        due("187 just so", heavy.least(187, -1), 99 + 88);
        due("188: not with the 99", heavy.least(188, -1), 88 + 88 + 78);
        due("200: likewise", heavy.least(200, -1), 88 + 88 + 78);
        due("200: likewise, of 0", heavy.least(200, 0), 0);
        heavy.swans(2, 1);
        due("200: all that is left", heavy.least(200, -1), 99 + 88 + 88);
    }

    private static void met() {
        due("no DUES", new DripRings().met(), NONE);
        due("on its NIGHT, behind what drips", told("r 81 8 9;p 9 100;").met(), NONE);
        due("a NIGHT too early", told("p 8 100;").met(), 0);
        // The first ring pays the due of NIGHT 1, told second; then nothing is there for the others.
        due("by NIGHTS", told("r 5 1 20;p 3 1;p 1 5;p 2 1;").met(), 2);
        due("of one NIGHT as told", told("r 5 1 20;p 3 5;p 3 4;p 3 6;").met(), 1);
        DripRings x = told("r 5 1 20;p 1 5;p 2 1;");
        due("the second", x.met(), 1);
        x.night();
        due("a DUE of NOW is not asked", x.met(), NONE);
        x.night();
        due("none is behind NOW", x.met(), NONE);
        x.melts(0, 1);
        due("none to come", x.met(), NONE);
        DripRings y = told("r 5 1 20;p 1 5;");
        y.melts(0, 1);
        due("LUMP is not asked", y.met(), 0);
        due("nothing is changed", y.now(0), 0);
        DripRings z = told("r 60 2 2;l 1 2;t 1;p 4 70;p 6 90;p 6 30;");
        due("all are met", z.met(), NONE);
        due("nothing is changed", z.now(2), 1);
        due("NIGHT 120", told("p 120 200;").met(), NONE);
    }

    private static void metTakesTheOldest() {
        // EACH 2, of ORDER 1 it is 5: rings of NIGHTS 2 and 4; the due of NIGHT 4 (30) takes the one of NIGHT 2,
        // so on NIGHT 7 nothing of ORDER 2 drips, and NIGHT 8 can't pay by a 15.
        DripRings x = told("r 60 1 2;l 1 2;t 3;p 4 30;p 8 15;");
        due("met", x.met(), NONE);
        // NIGHT 8: 60, those of NIGHTS 4, 6, 8 (30 each): the 15 is paid by one of 30.
        due("left", x.left(), 60 + 30 + 30);
        // Told otherwise: nothing is taken on NIGHT 4, so the 15 of NIGHT 7 pays.
        due("left", told("r 60 1 2;l 1 2;t 3;p 8 15;").left(), 60 + 4 * 30);
    }

    private static void left() {
        DripRings x = new DripRings();
        due("no DUES: NOW", x.left(), 81);
        nights(x, 9);
        x.melts(1, 1);
        due("without LUMP", x.left(), 81 + 7 * 27);
        due("paid by 108", told("p 9 100;").left(), 81 + 4 * 27);
        due("on the last one's NIGHT", told("p 9 100;p 18 1;").left(), 81 + 12 * 27 + 32 * 9 - 9);
        due("one is not MET", told("p 8 100;p 9 1;").left(), NONE);
        due("all is paid", told("r 5 1 20;p 7 5;").left(), 0);
        DripRings y = told("p 9 100;p 20 1;p 10 3;");
        nights(y, 20);
        due("none behind NOW", y.left(), y.now(3));
        DripRings z = told("p 18 9;");
        nights(z, 9);
        z.melts(1, 8);
        due("LUMP is not of it", z.left(), 81 + 8 * 27 - 27);
        due("nothing is changed", z.now(1), 216);
    }

    // ---- ages

    private static void age() {
        DripRings x = new DripRings();
        due("age(81)", x.age(81), 1);
        due("age(27)", x.age(27), 2);
        due("age(9)", x.age(9), 4);
        due("age(3)", x.age(3), 8);
        due("age(1)", x.age(1), 16);
        due("age(2)", x.age(2), 0);
        due("age(99)", x.age(99), 0);
        due("age(0)", x.age(0), BAD);
        due("age(100)", x.age(100), BAD);
        due("age(99) of a 99", told("r 99 1 1;").age(99), 1);
        due("0 is not a WEIGHT to ask by", told("r 1 1 1;").age(1), 1);
    }

    private static void first() {
        DripRings x = new DripRings();
        due("first(0, 1)", x.first(0, 1), 0);
        due("first(0, 2)", x.first(0, 2), NONE);
        due("first(1, 1)", x.first(1, 1), 9);
        due("first(1, 8)", x.first(1, 8), 9);
        due("first(1, 9)", x.first(1, 9), 18);
        due("first(1, 104)", x.first(1, 104), 117);
        due("first(1, 105)", x.first(1, 105), NONE);
        due("first(4, 1)", x.first(4, 1), 36);
        due("first(4, 1000000)", x.first(4, 1000000), 99);
        nights(x, 20);
        x.swans(0, 1);
        due("nothing being thrown, from NIGHT 0 on", x.first(1, 8), 9);
        x.melts(1, 16);
        due("nor melted", x.first(1, 17), 27);
        due("n 0", x.first(0, 0), BAD);
        due("n 1000001", x.first(0, 1000001), BAD);
        due("ORDER 5", x.first(5, 1), BAD);
        due("ORDER -1", x.first(-1, 1), BAD);
        due("nothing is changed", x.now(0), 20);
        due("NIGHT 120 itself", told("r 99 9 1;").first(1, 1080), 120);
    }

    private static void lay() {
        DripRings x = new DripRings();
        due("lay(0, 0)", x.lay(0, 0), 1);
        due("lay(4, 1000000)", x.lay(4, 1000000), 2);
        due("lay(5, 0)", x.lay(5, 0), BAD);
        due("lay(-1, 0)", x.lay(-1, 0), BAD);
        due("lay(0, -1)", x.lay(0, -1), BAD);
        due("lay(0, 1000001)", x.lay(0, 1000001), BAD);
        due("lay", x.lay(1, 1), 3);
        due("lay", x.lay(1, 1), 4);
        due("lay", x.lay(1, 1), 5);
        due("a sixth", x.lay(1, 1), FULL);
        due("BAD ahead of FULL", x.lay(5, 1), BAD);
        due("count(3)", x.count(3), 5);
        due("not UNDONE", x.now(4), 0);
    }

    private static void forget() {
        DripRings x = new DripRings();
        due("forget() of none", x.forget(), 0);
        x.lay(0, 2);
        x.lay(0, 3);
        due("mayBe(0)", x.mayBe(0), 0);
        due("forget() of 2", x.forget(), 2);
        due("count(3)", x.count(3), 0);
        due("mayBe(0) of nothing told", x.mayBe(0), 121);
        due("forget() again", x.forget(), 0);
        due("lay behind it", x.lay(1, 8), 1);
        due("mayBe(0)", x.mayBe(0), 9);
    }

    private static void mayBe() {
        DripRings x = new DripRings();
        due("all NIGHTS", x.mayBe(0), 121);
        due("the first", x.mayBe(1), 0);
        due("the last", x.mayBe(2), 120);
        x.lay(1, 0);
        due("before it dripped", x.mayBe(0), 9);
        due("first", x.mayBe(1), 0);
        due("last", x.mayBe(2), 8);
        x.lay(0, 1);
        due("all told must be", x.mayBe(0), 9);
        x.lay(1, 8);
        due("can't both be", x.mayBe(0), 0);
        due("no first", x.mayBe(1), NONE);
        due("no last", x.mayBe(2), NONE);
        x.forget();
        x.lay(1, 104);
        due("till NIGHT 120", x.mayBe(0), 4);
        due("from 117", x.mayBe(1), 117);
        due("to 120", x.mayBe(2), 120);
        nights(x, 3);
        x.swans(0, 1);
        due("nothing being thrown", x.mayBe(0), 4);
        x.forget();
        x.lay(1, 9);
        due("just so many", x.mayBe(0), 0);
        due("what 3", x.mayBe(3), BAD);
        due("what -1", x.mayBe(-1), BAD);
        due("nothing is changed", x.now(0), 3);
    }

    // ---- smelters, thieves, barley

    private static void smelt() {
        DripRings x = new DripRings();
        nights(x, 9);
        // On NIGHT 18: 81, 16 of 27, 64 of 9: 1089. Without 0: 8 of 27, 64 of 9: 792. Without 1: 81 and 8 of 27: 297.
        due("without", x.smelt(18, 1089), 5);
        due("all 0", x.smelt(18, 1088), 0);
        due("all 0, just so", x.smelt(18, 792), 0);
        due("all 1", x.smelt(18, 791), 1);
        due("all 1, just so", x.smelt(18, 297), 1);
        due("none", x.smelt(18, 296), NONE);
        due("NOW", x.smelt(9, 297), 5);
        due("NOW, all 0", x.smelt(9, 296), 0);
        due("NOW, all 0, just so", x.smelt(9, 216), 0);
        due("NOW, all 1", x.smelt(9, 215), 1);
        due("NOW, none", x.smelt(9, 80), NONE);
        due("gone NIGHT", x.smelt(8, 1), BAD);
        due("NIGHT 121", x.smelt(121, 1), BAD);
        due("w 0", x.smelt(9, 0), BAD);
        due("w at most", x.smelt(120, 1000000000), 5);
        due("w above", x.smelt(9, 1000000001), BAD);
        x.melts(1, 4);
        // LUMP 108, melted ahead, weighs on.
        due("LUMP counts", x.smelt(9, 216), 0);
        due("LUMP counts, just below", x.smelt(9, 215), 1);
        due("LUMP counts, 81 and it", x.smelt(9, 189), 1);
        due("LUMP counts, below both", x.smelt(9, 188), NONE);
        due("nothing is changed", x.now(2), 5);
        DripRings y = told("r 99 9 20;l 8 9;");
        y.swans(0, 1);
        due("nothing is there", y.smelt(120, 1), 5);
        DripRings z = told("r 4 9 1;l 1 2;");
        nights(z, 2);
        // 4, 18 of 2, 81 of 1: melting 2 leaves 40.
        due("ORDER 2 of NOW", z.smelt(2, 40), 2);
        due("ORDER 1 first", z.smelt(2, 85), 1);
        due("ORDER 0 first", z.smelt(2, 117), 0);
        due("ORDER 0 by its drops, too", z.smelt(3, 18 * 2 + (81 + 18 * 9)), 0);
    }

    private static void odds() {
        DripRings x = new DripRings();
        due("1 of 1", x.odds(0, 0), 1);
        due("1 of 1", x.odds(0, 1), 1);
        due("0 of 1", x.odds(3, 0), 0);
        due("0 of 1", x.odds(3, 1), 1);
        nights(x, 9);
        x.melts(1, 5);
        due("3 of 4", x.odds(1, 0), 3);
        due("3 of 4", x.odds(1, 1), 4);
        x.swans(1, 1);
        due("2 of 3", x.odds(1, 0), 2);
        due("2 of 3", x.odds(1, 1), 3);
        x.swans(1, 1);
        due("1 of 2", x.odds(1, 0), 1);
        due("1 of 2", x.odds(1, 1), 2);
        due("0 of 2", x.odds(2, 0), 0);
        due("0 of 2, in least terms", x.odds(2, 1), 1);
        x.swans(1, 1);
        x.swans(0, 1);
        due("no rings", x.odds(0, 0), 0);
        due("no rings", x.odds(0, 1), 1);
        due("ORDER 5", x.odds(5, 0), BAD);
        due("ORDER -1", x.odds(-1, 0), BAD);
        due("what 2", x.odds(0, 2), BAD);
        due("what -1", x.odds(0, -1), BAD);
        DripRings y = new DripRings();
        nights(y, 18);
        due("16 of 81", y.odds(1, 0), 16);
        due("16 of 81", y.odds(1, 1), 81);
        y.swans(2, 1);
        due("63 of 80", y.odds(2, 0), 63);
        due("16 of 80", y.odds(1, 0), 1);
        due("16 of 80", y.odds(1, 1), 5);
    }

    private static void barley() {
        DripRings x = new DripRings();
        due("barley(100, 81)", x.barley(100, 81), 100);
        due("barley(100, 80)", x.barley(100, 80), 98);
        due("barley(1, 80)", x.barley(1, 80), 0);
        due("barley(1, 81)", x.barley(1, 81), 1);
        due("barley(5, 0)", x.barley(5, 0), 0);
        due("barley(1000, 1000000)", x.barley(1000, 1000000), 12345679);
        due("w 1000001", x.barley(1, 1000001), BAD);
        due("w -1", x.barley(1, -1), BAD);
        due("b 0", x.barley(0, 1), BAD);
        due("b 1001", x.barley(1001, 1), BAD);
        x.melts(0, 1);
        due("LUMP, too", x.barley(100, 40), 49);
        x.pays(81);
        due("nothing is there", x.barley(100, 40), NONE);
        due("BAD ahead of NONE", x.barley(0, 40), BAD);
        due("a great product", told("r 1 1 1;").barley(1000, 1000000), 1000000000);
    }

    // ---- kinds, images

    private static void rate() {
        DripRings x = told("r 60 2 5;l 2 3;t 4;");
        nights(x, 7);
        int[] weights = {60, 40, 26, 17, 11};
        for (int o = 0; o < 5; o++) {
            int w = weights[o];
            int less = 5 + 4 * o;
            due("RING " + o, x.rate(0, o), w);
            due("BROKEN " + o, x.rate(1, o), w + 2);
            due("BARREN " + o, x.rate(2, o), w - less);
            due("TWIN " + o, x.rate(3, o), 2 * (w + 2));
            due("DUST " + o, x.rate(4, o), w - less + o);
            due("PLEDGED " + o, x.rate(5, o), w + 7);
        }
        due("below 0", told("r 1 1 20;t 9;").rate(2, 4), -56);
        due("KIND 6", x.rate(6, 0), NO);
        due("KIND -1", x.rate(-1, 0), NO);
        due("ORDER 5", x.rate(0, 5), NO);
        due("ORDER -1", x.rate(0, -1), NO);
    }

    private static void keep() {
        DripRings x = new DripRings();
        nights(x, 3);
        due("keep(0)", x.keep(0), 3);
        x.night();
        due("keep(1)", x.keep(1), 4);
        due("keep(2)", x.keep(2), BAD);
        due("keep(-1)", x.keep(-1), BAD);
        due("nothing less is UNDONE", x.now(4), 4);
        nights(x, 10);
        due("back(0)", x.back(0), 3);
        due("keep(1) over it", x.keep(1), 3);
        x.night();
        due("back(1)", x.back(1), 3);
    }

    private static void back() {
        DripRings x = new DripRings();
        due("back(0) of none", x.back(0), STATE);
        nights(x, 18);
        x.melts(1, 3);
        x.keep(0);
        due("back(1) of none", x.back(1), STATE);
        due("UNDONE stays when refused", x.now(4), 8);
        due("back(2)", x.back(2), BAD);
        due("back(-1)", x.back(-1), BAD);
        nights(x, 9);
        x.pays(81);
        x.swans(0, 1);
        x.lay(0, 1);
        x.type(32);
        x.rate(0, 0);
        due("back(0)", x.back(0), 18);
        due("LUMP", x.now(1), 81);
        due("of 0", x.all(18, 0), 1);
        due("of 1", x.all(18, 1), 13);
        due("of 2", x.all(18, 2), 64);
        due("the oldest of 1", x.order(1, 3), 9);
        due("on NIGHT 27", x.all(27, 2), 64 + 13 * 8);
        due("nothing UNDONE", x.now(4), 0);
        due("nothing can be", x.undo(), STATE);
        due("the GRAVE stays", x.count(3), 1);
        due("the text stays", x.count(4), 1);
        due("THE TRACE stays", x.trace(), 1);
        x.night();
        due("undo() of what came behind", x.undo(), 0);
        due("the IMAGE stays", x.back(0), 18);
    }

    private static void count() {
        DripRings x = told("r 60 2 5;t 4;p 1 1;p 2 2;p 3 3;");
        x.lay(0, 1);
        type(x, "abcde");
        int[] counts = {2, 4, 3, 1, 5};
        for (int what = 0; what < 5; what++) {
            due("count(" + what + ")", x.count(what), counts[what]);
        }
        due("count(5)", x.count(5), BAD);
        due("count(-1)", x.count(-1), BAD);
    }

    private static void trace() {
        DripRings x = new DripRings();
        int[] traces = {1, 11, 101, 1011, 10101, 100001};
        long sum = 0;
        for (int kind = 0; kind < 6; kind++) {
            x.rate(kind, 4);
            sum += traces[kind];
            due("trace() behind KIND " + kind, x.trace(), sum);
        }
        x.rate(6, 0);
        x.rate(0, 5);
        due("refused", x.trace(), sum);
        due("asked again", x.trace(), sum);
    }

    private static void greatNumbers() {
        DripRings x = told("r 99 9 1;l 8 9;");
        due("ORDER 4 on NIGHT 120", x.all(120, 4), 53895793770L);
        nights(x, 120);
        due("all on NIGHT 120", x.now(2), 54101105551L);
        due("all weighs", x.now(3), 3301815158469L);
        due("melts a million", x.melts(4, 1000000), 61000000L);
        due("nothing lost", x.now(3), 3301815158469L);
        due("barley", x.barley(1000, 1000000), 0);
        due("left", x.left(), 3301815158469L - 61000000L);
        due("a million more", x.melts(4, 1000000), 122000000L);
        due("odds", x.odds(0, 1), 54101105551L - 2000000L);
    }

    /** Numbers far out are refused by every call that takes some, and change nothing. */
    private static void wildNumbers() {
        DripRings x = told("r 60 2 5;p 1 1;");
        for (int n : WILD) {
            due("type " + n, x.type(n), BAD);
            due("order " + n, x.order(n, 0), BAD);
            due("order what " + n, x.order(0, n), BAD);
            due("due " + n, x.due(n, 0), BAD);
            due("due what " + n, x.due(0, n), BAD);
            due("now " + n, x.now(n), BAD);
            due("swans " + n, x.swans(n, 1), BAD);
            due("swans n " + n, x.swans(0, n), BAD);
            due("melts " + n, x.melts(n, 1), BAD);
            due("melts n " + n, x.melts(0, n), BAD);
            due("pays " + n, x.pays(n), BAD);
            due("all " + n, x.all(n, 0), BAD);
            due("all o " + n, x.all(0, n), BAD);
            due("above " + n, x.above(n), BAD);
            due("least " + n, x.least(n, 0), BAD);
            due("least o " + n, x.least(1, n), BAD);
            due("age " + n, x.age(n), BAD);
            due("first " + n, x.first(n, 1), BAD);
            due("first n " + n, x.first(0, n), BAD);
            due("lay " + n, x.lay(n, 1), BAD);
            due("lay n " + n, x.lay(0, n), BAD);
            due("mayBe " + n, x.mayBe(n), BAD);
            due("smelt " + n, x.smelt(n, 1), BAD);
            due("smelt w " + n, x.smelt(0, n), BAD);
            due("odds " + n, x.odds(n, 0), BAD);
            due("odds what " + n, x.odds(0, n), BAD);
            due("barley " + n, x.barley(n, 1), BAD);
            due("barley w " + n, x.barley(1, n), BAD);
            due("rate " + n, x.rate(n, 0), NO);
            due("rate o " + n, x.rate(0, n), NO);
            due("keep " + n, x.keep(n), BAD);
            due("back " + n, x.back(n), BAD);
            due("count " + n, x.count(n), BAD);
        }
        due("the rings stay", x.now(2), 1);
        due("nothing was done", x.now(4), 0);
        due("nothing was told", x.count(3) + x.count(4), 0);
        due("THE TRACE stays", x.trace(), 0);
    }
}

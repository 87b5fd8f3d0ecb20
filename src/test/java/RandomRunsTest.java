/** Runs of 512 calls, drawn from fixed seeds, each answer against that of the model. */
public final class RandomRunsTest {
    private static final int RUNS = 400;
    private static final int CALLS = 512;

    private final Draw random;
    private final DripRings rings = new DripRings();
    private final Model model = new Model();
    private final int run;
    private int calls;

    private RandomRunsTest(int run) {
        this.run = run;
        random = new Draw(7919L * run + 1);
    }

    public static void main(String[] args) {
        for (int run = 0; run < RUNS && Check.wrongs() < 50; run++) {
            new RandomRunsTest(run).all();
        }
        Check.end();
    }

    private void all() {
        if (run % 4 != 0) {
            tell(run % 4 == 1 ? smallText() : anyText());
        }
        // Some runs do much, others ask much.
        int doing = random.nextInt(80);
        while (calls < CALLS - 1) {
            int drawn = random.nextInt(200);
            if (drawn < 2 && calls < CALLS - 120) {
                String told = random.nextInt(2) == 0 ? smallText() : anyText();
                tell(random.nextInt(3) == 0 ? spoil(told) : told);
            } else if (random.nextInt(100) < doing) {
                act();
            } else {
                ask(random.nextInt(23));
            }
        }
    }

    private void due(String call, long got, long want) {
        calls++;
        Check.due("run " + run + ", call " + calls + ": " + call, got, want);
    }

    private int of(int least, int most) {
        return least + random.nextInt(most - least + 1);
    }

    /** Mostly within the bounds, at times on them or just outside. */
    private int near(int least, int most) {
        switch (random.nextInt(24)) {
            case 0:
                return least - 1;
            case 1:
                return most + 1;
            case 2:
                return least;
            case 3:
                return most;
            case 4:
                return random.nextInt(8) == 0 ? Integer.MIN_VALUE + random.nextInt(2) : least;
            case 5:
                return random.nextInt(8) == 0 ? Integer.MAX_VALUE - random.nextInt(2) : most;
            default:
                return of(least, most);
        }
    }

    private int rather(int least, int most) {
        int bound = most;
        for (int halves = random.nextInt(20); halves > 0 && bound > least + 3; halves--) {
            bound = least + (bound - least) / 2;
        }
        return random.nextInt(15) == 0 ? near(least, most) : of(least, bound);
    }

    private String blanks() {
        return random.nextInt(6) == 0 ? " ".repeat(of(1, 2)) : "";
    }

    private String item(String sign, int... numbers) {
        StringBuilder told = new StringBuilder(blanks()).append(sign);
        for (int i = 0; i < numbers.length; i++) {
            told.append(i == 0 ? blanks() : " " + blanks()).append(numbers[i]);
        }
        return told.append(blanks()).append(";").toString();
    }

    private String smallText() {
        StringBuilder told = new StringBuilder();
        told.append(item("r", of(1, 99), of(1, 3), of(5, 20)));
        int a = of(1, 8);
        told.append(item("l", a, of(a + 1, 9)));
        for (int n = random.nextInt(6); n > 0; n--) {
            told.append(item("p", of(1, 60), of(1, 60)));
        }
        return told.toString();
    }

    private String anyText() {
        StringBuilder told = new StringBuilder();
        String[] items = new String[9];
        int n = 0;
        if (random.nextInt(4) > 0) {
            items[n++] = item("r", of(1, 99), of(1, 9), of(1, 20));
        }
        if (random.nextInt(4) > 0) {
            int a = of(1, 8);
            items[n++] = item("l", a, of(a + 1, 9));
        }
        if (random.nextInt(4) > 0) {
            items[n++] = item("t", of(0, 9));
        }
        for (int p = random.nextInt(7); p > 0; p--) {
            items[n++] = item("p", of(1, random.nextInt(3) == 0 ? 120 : 30), of(1, 200));
        }
        while (n > 0) {
            int at = random.nextInt(n);
            told.append(items[at]);
            items[at] = items[--n];
        }
        return told.append(blanks()).toString();
    }

    private String spoil(String told) {
        StringBuilder spoilt = new StringBuilder(told);
        for (int n = of(1, 2); n > 0 && spoilt.length() > 0; n--) {
            int at = random.nextInt(spoilt.length());
            String letters = "rltp;0123456789  x-R" + (char) 255 + (char) 9 + (char) 0;
            switch (random.nextInt(4)) {
                case 0:
                    spoilt.deleteCharAt(at);
                    break;
                case 1:
                    spoilt.insert(at, letters.charAt(random.nextInt(letters.length())));
                    break;
                case 2:
                    spoilt.setCharAt(at, letters.charAt(random.nextInt(letters.length())));
                    break;
                default:
                    spoilt.setLength(at);
                    break;
            }
        }
        return spoilt.toString();
    }

    private void tell(String told) {
        if (random.nextInt(2) == 0) {
            due("clear()", rings.clear(), model.clear());
        }
        for (char c : told.toCharArray()) {
            if (calls < CALLS - 3) {
                due("type(" + (int) c + ")", rings.type(c), model.type(c));
            }
        }
        due("count(4)", rings.count(4), model.count(4));
        due("ring() of " + told, rings.ring(), model.ring());
    }

    private void act() {
        int o = near(0, 4);
        switch (random.nextInt(14)) {
            case 0:
                int thrown = rather(1, 1000000);
                due("swans(" + o + ", " + thrown + ")", rings.swans(o, thrown), model.swans(o, thrown));
                break;
            case 1:
                int melted = rather(1, 1000000);
                due("melts(" + o + ", " + melted + ")", rings.melts(o, melted), model.melts(o, melted));
                break;
            case 2:
                int paid = rather(1, 1000000);
                due("pays(" + paid + ")", rings.pays(paid), model.pays(paid));
                break;
            case 3:
                due("undo()", rings.undo(), model.undo());
                break;
            case 4:
                int kept = near(0, 1);
                due("keep(" + kept + ")", rings.keep(kept), model.keep(kept));
                break;
            case 5:
                int image = near(0, 1);
                if (random.nextInt(3) == 0) {
                    due("back(" + image + ")", rings.back(image), model.back(image));
                }
                break;
            case 6:
                // What mayBe() is asked of: mostly what was so on some NIGHT.
                int order = of(0, 4);
                int lain = random.nextInt(3) == 0 ? rather(0, 1000000) : (int) Math.min(1000000, model.all(
                    of((int) model.now(0), 120), order));
                due("lay(" + order + ", " + lain + ")", rings.lay(order, lain), model.lay(order, lain));
                break;
            default:
                due("night()", rings.night(), model.night());
                break;
        }
    }

    private void ask(int which) {
        int o = near(0, 4);
        int what = near(0, 4);
        int night = random.nextInt(6) == 0 ? near(0, 120) : near((int) model.now(0), 120);
        int w = rather(0, 1000000000);
        switch (which) {
            case 0:
                due("order(" + o + ", " + what + ")", rings.order(o, what), model.order(o, what));
                break;
            case 1:
                int i = near(0, 5);
                due("due(" + i + ", " + what + ")", rings.due(i, what), model.due(i, what));
                break;
            case 2:
                due("now(" + what + ")", rings.now(what), model.now(what));
                break;
            case 3:
            case 4:
                int of = near(-2, 4);
                due("all(" + night + ", " + of + ")", rings.all(night, of), model.all(night, of));
                break;
            case 5:
                due("above(" + w + ")", rings.above(w), model.above(w));
                break;
            case 6:
            case 7:
                askLeast();
                break;
            case 8:
                due("met()", rings.met(), model.met());
                break;
            case 9:
                due("left()", rings.left(), model.left());
                break;
            case 10:
                int gold = random.nextInt(2) == 0 ? near(1, 99) : model.order(of(0, 4), 0);
                due("age(" + gold + ")", rings.age(gold), model.age(gold));
                break;
            case 11:
                int n = rather(1, 1000000);
                due("first(" + o + ", " + n + ")", rings.first(o, n), model.first(o, n));
                break;
            case 12:
            case 13:
                int which2 = near(0, 2);
                due("mayBe(" + which2 + ")", rings.mayBe(which2), model.mayBe(which2));
                break;
            case 14:
            case 15:
                due("smelt(" + night + ", " + w + ")", rings.smelt(night, w), model.smelt(night, w));
                break;
            case 16:
                int part = near(0, 1);
                due("odds(" + o + ", " + part + ")", rings.odds(o, part), model.odds(o, part));
                break;
            case 17:
                int b = near(1, 1000);
                int price = rather(0, 1000000);
                due("barley(" + b + ", " + price + ")", rings.barley(b, price), model.barley(b, price));
                break;
            case 18:
                int kind = near(0, 5);
                due("rate(" + kind + ", " + o + ")", rings.rate(kind, o), model.rate(kind, o));
                break;
            case 19:
                due("count(" + what + ")", rings.count(what), model.count(what));
                break;
            case 20:
                due("trace()", rings.trace(), model.trace());
                break;
            case 21:
                if (random.nextInt(3) == 0) {
                    due("forget()", rings.forget(), model.forget());
                }
                break;
            default:
                int letter = random.nextInt(2) == 0 ? near(0, 255) : 32;
                due("type(" + letter + ")", rings.type(letter), model.type(letter));
                break;
        }
    }

    private void askLeast() {
        int w = near(1, 200);
        for (int o = -1; o <= 4 && calls < CALLS - 1; o++) {
            due("least(" + w + ", " + o + ")", rings.least(w, o), model.least(w, o));
        }
        int o = near(-1, 4);
        due("least(" + w + ", " + o + ")", rings.least(w, o), model.least(w, o));
    }
}

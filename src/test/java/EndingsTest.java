/** FAULT, told another way: the first TOKEN behind which no ending makes a text of it any more. */
public final class EndingsTest {
    private static final int TEXTS = 30000;
    // What an ITEM may lack at most: its NUMBERS, of which a 9 may stand nearly everywhere, and the ;
    private static final String[] ENDINGS = {"", ";", "9;", "9 9;", "9 9 9;", "8 9;"};
    private static final String[] ITEMS = {"r 9 9 9;", "l 1 2;", "t 3;", "p 1 1;", "p 5 200;"};
    private static final String[] PARTS = {"r", "l", "t", "p", ";", ";", " ", " ", "0", "1", "5", "9", "10", "20", "21",
        "99", "120", "121", "200", "201", "00", "x", "l 5 5;", "l 5 4;", "l 5 6;", "l 8 10;", "l 4 ", "r 20 "};

    private static boolean isText(String told) {
        String plain = told.trim().replaceAll(" +", " ");
        if (plain.isEmpty()) {
            return true;
        }
        if (!plain.endsWith(";")) {
            return false;
        }
        int[] many = new int[128];
        for (String item : plain.substring(0, plain.length() - 1).split(";", -1)) {
            if (!isItem(item.trim())) {
                return false;
            }
            many[item.trim().charAt(0)]++;
        }
        return many['r'] <= 1 && many['l'] <= 1 && many['t'] <= 1 && many['p'] <= 6;
    }

    private static boolean isItem(String item) {
        String upTo99 = "[1-9][0-9]?";
        if (item.matches("l ?[1-8] [2-9]")) {
            return item.charAt(item.length() - 1) > item.charAt(item.length() - 3);
        }
        return item.matches("r ?" + upTo99 + " [1-9] ([1-9]|1[0-9]|20)") || item.matches("t ?[0-9]")
            || item.matches("p ?(" + upTo99 + "|1[01][0-9]|120) (" + upTo99 + "|1[0-9][0-9]|200)");
    }

    private static int fault(String told) {
        int at = 0;
        while (at < told.length()) {
            int end = at + 1;
            boolean digit = Character.isDigit(told.charAt(at));
            while (digit && end < told.length() && Character.isDigit(told.charAt(end))) {
                end++;
            }
            String ahead = told.substring(0, end);
            boolean canStand = told.charAt(at) == ' ';
            for (String ending : ENDINGS) {
                canStand = canStand || isText(ahead + " " + ending);
            }
            if (!canStand) {
                return at;
            }
            at = end;
        }
        return isText(told) ? -1 : told.length();
    }

    private static String drawn(Draw draw) {
        StringBuilder told = new StringBuilder();
        for (int k = 1 + draw.nextInt(12); k > 0; k--) {
            String[] some = draw.nextInt(3) > 0 ? ITEMS : PARTS;
            told.append(some[draw.nextInt(some.length)]);
        }
        return told.toString();
    }

    public static void main(String[] args) {
        Draw draw = new Draw(7);
        for (int i = 0; i < TEXTS; i++) {
            String text = drawn(draw);
            DripRings x = new DripRings();
            for (char c : text.toCharArray()) {
                x.type(c);
            }
            int fault = fault(text);
            long items = text.chars().filter(c -> c == ';').count();
            Check.due("ring() of " + text, x.ring(), fault < 0 ? items : -10 - fault);
        }
        Check.end();
    }
}

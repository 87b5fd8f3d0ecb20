/** Each of the 256 letters, where it may stand in THE TEXT, and where it is the FAULT. */
public final class LettersTest {
    public static void main(String[] args) {
        for (int letter = 0; letter < 256; letter++) {
            // 32 is a blank; r, l, t, p begin an ITEM, which ends too early; all others can't stand there.
            place(letter, "", "", letter == ' ' ? -1 : isOneOf(letter, "rltp") ? 1 : 0);
            // A digit makes it a NUMBER beyond 9; ; is one ; too many.
            place(letter, "t 1", ";", letter == ' ' ? -1 : isDigit(letter) ? 2 : letter == ';' ? 4 : 3);
            // 101 and 111 may be a NIGHT, but then the WEIGHT is missing; 121 and more may not.
            place(letter, "p 1", "1;", letter == ' ' ? -1 : isOneOf(letter, "01") ? 5 : isDigit(letter) ? 2 : 3);
            place(letter, "p 1 1;", "t 1;", letter == ' ' ? -1 : isOneOf(letter, "rltp") ? 7 : 6);
            // t a second time can't stand at all.
            place(letter, "t 1;", " ", letter == ' ' ? -1 : isOneOf(letter, "rlp") ? 6 : 4);
            Check.due("type(" + letter + ")", new DripRings().type(letter), 1);
        }
        for (int beyond = 256; beyond < 1024; beyond++) {
            Check.due("type(" + beyond + ")", new DripRings().type(beyond), -1);
            Check.due("type(" + (255 - beyond) + ")", new DripRings().type(255 - beyond), -1);
        }
        Check.end();
    }

    private static boolean isDigit(int letter) {
        return letter >= '0' && letter <= '9';
    }

    private static boolean isOneOf(int letter, String some) {
        return some.indexOf((char) letter) >= 0;
    }

    /** The FAULT of a text with that letter in it, or -1 for none. */
    private static void place(int letter, String ahead, String behind, int fault) {
        DripRings x = new DripRings();
        String text = ahead + (char) letter + behind;
        for (char c : text.toCharArray()) {
            x.type(c);
        }
        int got = x.ring();
        Check.due("FAULT of " + ahead + "(" + letter + ")" + behind, got >= 0 ? -1 : -10 - got, fault);
        Check.due("letters behind ring() of " + ahead + "(" + letter + ")" + behind, x.count(4),
            fault < 0 ? 0 : text.length());
    }
}

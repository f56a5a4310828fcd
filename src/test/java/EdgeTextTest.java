/** Promise 2 and part 1 at their edges, a test for each sentence: what a TEXT is, where its first fault lies. */
public final class EdgeTextTest {
    private static final Due due = new Due();
    private static final String DIGITS = "0123456789";
    // Two dishes; the places from 6 on are free for guests.
    private static final String HEAD = "d22153";

    public static void main(String[] args) {
        manyDishes();
        howMany();
        price();
        manyGuests();
        semicolonAndLetter();
        kin();
        content();
        contentOfOthers();
        signs();
        notAllX();
        noTextGoesOn();
        aheadOfAnEighth();
        theLastSign();
        endsTooSoon();
        cutToItsSort();
        cellsFromOn();
        allAnew();
        sheetsAndTraceStay();
        notTaken();
        due.end();
    }

    /** A text on a new object, and on one where the least text and the greatest one were taken before. */
    private static void text(int want, String text) {
        due.is("table of " + text, want, Laid.table(new RoundAsk(), text));
        RoundAsk used = Laid.at(HEAD + ";k012;c9x0");
        Laid.table(used, ofDishes(6) + ";p99999999".repeat(5));
        due.is("table on a used object of " + text, want, Laid.table(used, text));
    }

    /** A text whose code at a place is another, laid as ints. */
    private static int withCode(String text, int place, int code) {
        RoundAsk x = new RoundAsk();
        x.sheet(0, 2, text.length());
        for (int i = 0; i < text.length(); i++) {
            x.put(0, i, i == place ? code : text.charAt(i));
        }
        return x.table(0, 2, 0, text.length());
    }

    /** Of all codes near and far only some may stand at a place; with any other one it is the first fault. */
    private static void only(String codes, String text, int place, int taken) {
        for (int code = -130; code <= 400; code++) {
            boolean may = code >= 0 && codes.indexOf(code) >= 0;
            due.is(text + ", " + code + " at " + place, may ? taken : -100 - place, withCode(text, place, code));
        }
        int one = codes.charAt(0);
        for (int code : new int[] {Integer.MIN_VALUE, Integer.MAX_VALUE, one - 65536, one + 65536, one | 1 << 31}) {
            due.is(text + ", " + code + " at " + place, -100 - place, withCode(text, place, code));
        }
    }

    private static String ofDishes(int m) {
        return "d" + m + "10".repeat(m) + (";k0" + "0".repeat(m)).repeat(2);
    }

    // "d and a digit m 2 .. 6 (DISHES, numbered from 0 on)"
    private static void manyDishes() {
        only("d", HEAD + ";k012;c9x0", 0, 2);
        for (int m = 2; m <= 6; m++) {
            RoundAsk x = new RoundAsk();
            due.is(m + " dishes", 2, Laid.table(x, ofDishes(m)));
            due.is(m + " dishes told", m, x.many(1));
            due.is("dish 0", 1, x.ofDish(0, 0));
            due.is("the last of " + m, 1, x.ofDish(m - 1, 0));
            due.is("none beyond " + m, -1, x.ofDish(m, 0));
        }
        for (String m : new String[] {"0", "1", "7", "8", "9", "/", ":", "x"}) {
            text(-101, "d" + m + ofDishes(2).substring(2));
            text(-101, "d" + m + ofDishes(6).substring(2));
        }
    }

    // "HOW MANY there are (1 .. 9)"
    private static void howMany() {
        only("123456789", HEAD + ";k012;c9x0", 2, 2);
        only("123456789", HEAD + ";k012;c9x0", 4, 2);
        for (int d = 0; d < 6; d++) {
            only("123456789", ofDishes(6), 2 + 2 * d, 2);
        }
        RoundAsk x = Laid.at("d21090;k000;k000");
        due.is("the least how many", 1, x.ofDish(0, 0));
        due.is("the greatest how many", 9, x.ofDish(1, 0));
    }

    // "PRICE (0 .. 9)"
    private static void price() {
        only(DIGITS, HEAD + ";k012;c9x0", 3, 2);
        only(DIGITS, HEAD + ";k012;c9x0", 5, 2);
        for (int d = 0; d < 6; d++) {
            only(DIGITS, ofDishes(6), 3 + 2 * d, 2);
        }
        RoundAsk x = Laid.at("d21019;k000;k000");
        due.is("the least price", 0, x.ofDish(0, 1));
        due.is("the greatest price", 9, x.ofDish(1, 1));
    }

    // "then 2 to 7 GUESTS, numbered from 0 on"
    private static void manyGuests() {
        text(-106, HEAD);
        text(-111, HEAD + ";k012");
        for (int n = 2; n <= 7; n++) {
            RoundAsk x = new RoundAsk();
            due.is(n + " guests", n, Laid.table(x, HEAD + ";k012".repeat(n)));
            due.is(n + " guests told", n, x.many(0));
            due.is("guest 0", 0, x.ofGuest(0, 3));
            due.is("the last of " + n, n - 1, x.ofGuest(n - 1, 3));
            due.is("none beyond " + n, -1, x.ofGuest(n, 3));
        }
        text(-141, HEAD + ";k012".repeat(8));
        text(-141, HEAD + ";k012".repeat(9));
    }

    // "each: ; a letter" (k 107, c 99, p 112)
    private static void semicolonAndLetter() {
        String text = HEAD + ";k012;c9x0;p0012";
        only(";", text, 6, 3);
        only(";", text, 11, 3);
        only(";", text, 16, 3);
        for (int code = -130; code <= 400; code++) {
            if (code < 0 || "kcp".indexOf(code) < 0) {
                due.is("letter " + code, -107, withCode(text, 7, code));
                due.is("letter " + code, -112, withCode(text, 12, code));
                due.is("letter " + code, -117, withCode(text, 17, code));
            }
        }
        due.is("c for k", 3, withCode(text, 7, 'c'));
        due.is("k for c", 3, withCode(text, 12, 'k'));
        // A p takes the first sign for its CONTENT, and misses the last one.
        due.is("p for k", -111, withCode(text, 7, 'p'));
        due.is("p for c, whose first sign is x", -114, withCode(text, 12, 'p'));
        due.is("k for p: a sign too many", -121, withCode(text, 17, 'k'));
        due.is("c for p: a sign too many", -121, withCode(text, 17, 'c'));
        RoundAsk x = Laid.at(text);
        for (int g = 0; g < 3; g++) {
            due.is("kind of " + "kcp".charAt(g), g, x.ofGuest(g, 0));
        }
    }

    // "a digit KIN (0 .. 9)"
    private static void kin() {
        String text = HEAD + ";k012;c9x0;p0012";
        only(DIGITS, text, 8, 3);
        only(DIGITS, text, 13, 3);
        only(DIGITS, text, 18, 3);
        RoundAsk x = Laid.at(HEAD + ";k012;k912;c912;c012;p9512;p0512");
        for (int g = 0; g < 6; g++) {
            due.is("KIN of " + g, g == 1 || g == 2 || g == 4 ? 9 : 0, x.ofGuest(g, 1));
        }
    }

    // "of a p another one CONTENT (0 .. 9)"
    private static void content() {
        String text = HEAD + ";p0012;p5912";
        only(DIGITS, text, 9, 2);
        only(DIGITS, text, 15, 2);
        RoundAsk x = Laid.at(text);
        due.is("the least CONTENT", 0, x.ofGuest(0, 2));
        due.is("the greatest CONTENT", 9, x.ofGuest(1, 2));
    }

    // "CONTENT of others is 0"
    private static void contentOfOthers() {
        RoundAsk x = Laid.at(HEAD + ";p9912;p9912");
        Laid.table(x, HEAD + ";k999;c999");
        due.is("CONTENT of KIND", 0, x.ofGuest(0, 2));
        due.is("CONTENT of CHEAP", 0, x.ofGuest(1, 2));
        text(-111, HEAD + ";k9999;c999");
        text(-116, HEAD + ";k999;c9999");
    }

    // "and m signs, WORTH of DISHES to him: a digit, or x"
    private static void signs() {
        String text = HEAD + ";k012;c912;p0012";
        for (int place : new int[] {9, 10, 14, 15, 20, 21}) {
            only(DIGITS + "x", text, place, 3);
        }
        for (int m = 2; m <= 6; m++) {
            int end = ofDishes(m).length();
            text(2, ofDishes(m));
            text(-100 - end + 1, ofDishes(m).substring(0, end - 1));
            text(-100 - end, ofDishes(m) + "0");
            text(-100 - end, ofDishes(m) + "x");
        }
        RoundAsk x = Laid.at("d3101010;k00x9;c09x0");
        int[][] want = {{0, -1, 9}, {9, -1, 0}};
        for (int g = 0; g < 2; g++) {
            for (int d = 0; d < 3; d++) {
                due.is("worth of " + d + " to " + g, want[g][d], x.worth(g, d, false));
            }
        }
    }

    // "x: he may not have it (not all x)"
    private static void notAllX() {
        for (int m = 2; m <= 6; m++) {
            for (int d = 0; d < m; d++) {
                String one = "x".repeat(d) + "0" + "x".repeat(m - 1 - d);
                text(2, "d" + m + "10".repeat(m) + ";k0" + one + ";c0" + one);
                text(2, "d" + m + "10".repeat(m) + ";k0" + one + ";p00" + one);
            }
            text(-100 - (5 + 2 * m + m - 1), "d" + m + "10".repeat(m) + ";k0" + "x".repeat(m));
        }
    }

    // "FIRST FAULT: the place (from 0 on) of the first code with which no TEXT goes on"
    private static void noTextGoesOn() {
        text(-100, "x");
        // Of two faults the first.
        text(-100, "k9");
        text(-102, "d20053;k012;c9x0");
        text(-106, HEAD + ":z");
        text(-108, HEAD + ";kkk");
        // What could still be a text with other codes behind it is no fault.
        due.is("six dishes begun, of two", -106, withCode(HEAD + ";k012;c9x0", 1, '6'));
        due.is("three dishes begun, of two", -106, withCode(HEAD + ";k012;c9x0", 1, '3'));
        // A guest's end: only a ; goes on.
        only(";", HEAD + ";k012;c9x0;k000", 16, 3);
        text(-116, HEAD + ";k012;c9x00");
        text(-116, HEAD + ";k012;c9x0x");
        text(-116, HEAD + ";k012;c9x0d");
    }

    // "(the ; ahead of an eighth GUEST"
    private static void aheadOfAnEighth() {
        String seven = HEAD + ";k012".repeat(7);
        text(7, seven);
        text(-141, seven + ";");
        text(-141, seven + ";k012");
        text(-141, seven + "0");
        String longest = "d6" + "10".repeat(6) + ";p00000000".repeat(7);
        text(7, longest);
        text(-100 - longest.length(), longest + ";");
    }

    // "the last sign, if all would be x)"
    private static void theLastSign() {
        text(-110, HEAD + ";k0xx");
        text(-110, HEAD + ";k0xx;k011");
        text(-115, HEAD + ";k0x1;k0xx");
        text(-116, HEAD + ";k0x1;p00xx");
        text(-122, "d6101010101010;k0xxxxxx;k0000000");
        only(DIGITS, HEAD + ";k0x1;k0x1", 15, 2);
    }

    // "how many codes there are, if it just ends too soon"
    private static void endsTooSoon() {
        text(-100, "");
        cutShort(HEAD + ";k012".repeat(7), 5);
        cutShort(HEAD + ";p00x9".repeat(7), 6);
        cutShort(HEAD + ";k0x0;c012", 5);
        cutShort(ofDishes(6), 9);
        cutShort(ofDishes(4), 7);
    }

    /** All that a text begins with; where two guests or more are whole, it is a text itself. */
    private static void cutShort(String text, int guest) {
        int head = text.indexOf(';');
        for (int n = 0; n < text.length(); n++) {
            int guests = (n - head) / guest;
            text(guests >= 2 && (n - head) % guest == 0 ? guests : -100 - n, text.substring(0, n));
        }
    }

    // "what comes to a cell of it is cut to its SORT (with its sign)": a code is what the cell has then
    private static void cutToItsSort() {
        String text = HEAD + ";k012;c9x0";
        int[] more = {256, -256, 65536, -65536, 1 << 24};
        for (int sort = 0; sort <= 2; sort++) {
            for (int add : more) {
                RoundAsk x = new RoundAsk();
                x.sheet(0, sort, text.length());
                for (int i = 0; i < text.length(); i++) {
                    x.put(0, i, text.charAt(i) + add);
                }
                boolean cut = sort == 0 || sort == 1 && Math.abs(add) > 256;
                due.is("codes and " + add + " as sort " + sort, cut ? 2 : -100, x.table(0, sort, 0, text.length()));
            }
        }
    }

    // "a TEXT of n cells of a SHEET from i on"
    private static void cellsFromOn() {
        String text = HEAD + ";k012;c9x0";
        int n = text.length();
        for (int k = 0; k < 4; k++) {
            for (int i : new int[] {0, 1, 100 - n}) {
                RoundAsk x = new RoundAsk();
                x.sheet(k, k % 3, 100);
                for (int c = 0; c < n; c++) {
                    x.put(k, i + c, text.charAt(c));
                }
                due.is("from " + i, 2, x.table(k, k % 3, i, n));
                due.is("from " + i + " one less", -100 - n + 1, x.table(k, k % 3, i, n - 1));
                due.is("from " + i + " one more", i + n < 100 ? -100 - n : -13, x.table(k, k % 3, i, n + 1));
                due.is("none at " + i, -100, x.table(k, k % 3, i, 0));
                due.is("one further on", i + n < 100 ? -100 : -13, x.table(k, k % 3, i + 1, n));
            }
        }
    }

    // "A TEXT that is taken makes all anew ..: each GUEST sits in the SEAT of his number, STEP is 1, COURSES
    // are 1, each SAYS what DISHES are WORTH to him, nobody remembers anything."
    private static void allAnew() {
        RoundAsk x = Laid.at("d6" + "99".repeat(6) + ";p99999999".repeat(7));
        for (int g = 0; g < 7; g++) {
            x.swap(g, 6 - g / 2);
            x.say(g, 5, g);
        }
        x.step(6);
        x.courses(8);
        x.dine();
        x.best(-1);
        x.seats(0, -1);
        for (String text : new String[] {HEAD + ";k012;c9x0", "d6" + "99".repeat(6) + ";p99999999".repeat(7)}) {
            int n = Laid.table(x, text);
            for (int g = 0; g < n; g++) {
                due.is("seat of " + g, g, x.ofGuest(g, 3));
                due.is("memory of " + g, -8, x.ofGuest(g, 4));
                for (int d = 0; d < x.many(1); d++) {
                    due.is("says", x.worth(g, d, false), x.worth(g, d, true));
                }
            }
            due.is("worth of dish 1 to 0", n == 2 ? 2 : 9, x.worth(0, 1, true));
            due.is("STEP", 1, x.many(2));
            due.is("COURSES", 1, x.many(3));
            due.is("evenings of this table", 0, x.many(4));
            due.is("none remembers", 0, x.forget());
            due.is("none beyond", -1, x.ofGuest(n, 0));
            due.is("best", n == 2 ? 10 * 2 + 9 * 2 : 7 * 171, x.best(-1));
            due.is("seats", n == 2 ? 10 + 9 : 7 * 171, x.seats(0, -1));
        }
    }

    // ".. but for the SHEETS and TRACE"
    private static void sheetsAndTraceStay() {
        RoundAsk x = Laid.at(Laid.THREE);
        Laid.row(x, 1, 1, 300, -300);
        Laid.row(x, 3, 2, 70000);
        x.tell(2);
        int trace = x.trace();
        due.is("a text is taken", 3, x.table(0, 0, 0, Laid.THREE.length()));
        due.is("TRACE", trace, x.trace());
        due.is("TRACE is not 0", 1, trace != 0 ? 1 : 0);
        for (int i = 0; i < Laid.THREE.length(); i++) {
            due.is("cell " + i, Laid.THREE.charAt(i), x.cell(0, i, 0));
        }
        due.is("shorts", -300, x.cell(1, 1, 1));
        due.is("nothing", 0, x.lose(2));
        due.is("ints", 70000, x.cell(3, 0, 2));
    }

    // A text that is not taken makes nothing anew.
    private static void notTaken() {
        for (String text : new String[] {"", "d", "d6111111111111;p99999999;k9999999;c99", HEAD + ";k012",
            HEAD + ";k012".repeat(7) + ";"}) {
            RoundAsk x = Laid.at(Laid.THREE);
            x.swap(0, 2);
            x.say(0, 0, 0);
            x.step(2);
            x.courses(3);
            x.dine();
            String was = State.ofTable(x);
            x.sheet(0, 0, text.length());
            for (int i = 0; i < text.length(); i++) {
                x.put(0, i, text.charAt(i));
            }
            due.is("a fault at the end", -100 - (text.length() == 42 ? 41 : text.length()),
                x.table(0, 0, 0, text.length()));
            due.is("fault() of a text that is not taken", 0, x.fault());
            due.is("nothing is made anew: " + text, 1, State.ofTable(x).equals(was) ? 1 : 0);
        }
    }
}

/** Promises 2 to 9: the table. */
public final class TableTest {
    private static final Due due = new Due();
    private static final String HEAD = "d22153";

    public static void main(String[] args) {
        texts();
        firstFaults();
        textOfCells();
        textCutShort();
        refusals();
        allAnew();
        dishes();
        guests();
        worths();
        sayings();
        swaps();
        steps();
        courses();
        due.end();
    }

    /** A text on a new object, and on one where longer and shorter ones were read before. */
    private static void text(int want, String text) {
        due.is("table of " + text, want, Laid.table(new RoundAsk(), text));
        RoundAsk used = Laid.at("d6" + "99".repeat(6) + ";p99999999".repeat(7));
        Laid.table(used, HEAD + ";k012;c9x0k");
        due.is("table on a used object of " + text, want, Laid.table(used, text));
        Laid.table(used, HEAD + ";k012".repeat(3));
        due.is("table once more of " + text, want, Laid.table(used, text));
    }

    private static void texts() {
        text(2, HEAD + ";k012;c9x0");
        text(2, HEAD + ";p9001;p0990");
        text(3, Laid.THREE);
        text(2, "d6101122334455;k0xxxxx0;c0012345");
        text(7, HEAD + ";k012".repeat(7));
        text(7, "d6" + "99".repeat(6) + ";p99999999".repeat(7));
    }

    private static void firstFaults() {
        text(-100, "");
        text(-100, "k");
        text(-100, "D22153;k012;c9x0");
        text(-101, "d");
        text(-101, "d1");
        text(-101, "d7");
        text(-101, "d0");
        text(-102, "d2");
        text(-102, "d20");
        text(-102, "d2x");
        text(-102, "d2:");
        text(-103, "d21");
        text(-103, "d21:");
        text(-103, "d21/");
        text(-105, "d2215");
        text(-104, "d22105");
        text(-106, HEAD);
        text(-106, HEAD + "k");
        text(-106, HEAD + "1");
        text(-107, HEAD + ";");
        text(-107, HEAD + ";x");
        text(-107, HEAD + ";d");
        text(-107, HEAD + ";5");
        text(-108, HEAD + ";k");
        text(-108, HEAD + ";kx");
        text(-108, HEAD + ";k:");
        text(-109, HEAD + ";k0");
        text(-109, HEAD + ";k0;");
        text(-109, HEAD + ";k0:");
        text(-110, HEAD + ";k01");
        text(-110, HEAD + ";k01k");
        text(-110, HEAD + ";k0x");
        text(-110, HEAD + ";k0xx");
        text(-109, HEAD + ";p4");
        text(-109, HEAD + ";p4x");
        text(-109, HEAD + ";p4:");
        text(-110, HEAD + ";p45");
        text(-111, HEAD + ";p45xx;k011");
        text(-111, HEAD + ";k012");
        text(-111, HEAD + ";k0123");
        text(-112, HEAD + ";k012;");
        text(-116, HEAD + ";k012;c9x0k");
        text(-117, HEAD + ";k012;c9x0;");
        text(-120, HEAD + ";k012;c9x0;k0xx");
        text(-141, HEAD + ";k012".repeat(7) + ";");
        text(-141, HEAD + ";k012".repeat(7) + ";k012");
        text(-141, HEAD + ";k012".repeat(7) + "3");
        text(-141, HEAD + ";k012".repeat(7) + "x");
        text(-122, "d6101122334455;k0xxxxxx;c0012345");
    }

    private static void textOfCells() {
        RoundAsk x = new RoundAsk();
        String text = HEAD + ";k012;c9x0";
        for (int sort = 0; sort <= 2; sort++) {
            x.sheet(sort, sort, 30);
            for (int i = 0; i < text.length(); i++) {
                x.put(sort, i + 3, text.charAt(i));
            }
            due.is("a text in the midst", 2, x.table(sort, sort, 3, text.length()));
            due.is("a text begun too soon", -100, x.table(sort, sort, 2, text.length()));
            due.is("a text with a cell more", -116, x.table(sort, sort, 3, text.length() + 1));
            due.is("no cells at the end", -100, x.table(sort, sort, 30, 0));
            x.put(sort, 3, 'd' + 256);
            due.is("a code cut to its sort", sort == 0 ? 2 : -100, x.table(sort, sort, 3, text.length()));
            x.put(sort, 3, 'd' + 65536);
            due.is("a code cut to its sort", sort == 2 ? -100 : 2, x.table(sort, sort, 3, text.length()));
            x.put(sort, 3, -156);
            due.is("a code below 0", sort == 0 ? 2 : -100, x.table(sort, sort, 3, text.length()));
        }
    }

    /** The sheet goes on with codes that would fit, or ends where the text does. */
    private static void textCutShort() {
        String text = Laid.THREE + ";k000;k000;k000;k000";
        for (int i = 0; i <= 100 - text.length(); i += 100 - text.length()) {
            RoundAsk x = new RoundAsk();
            x.sheet(0, 0, 100);
            for (int k = 0; k < text.length(); k++) {
                x.put(0, i + k, text.charAt(k));
            }
            for (int n = 0; n <= text.length(); n++) {
                int guests = n == 16 ? 2 : n >= 22 && (n - 22) % 5 == 0 ? 3 + (n - 22) / 5 : 0;
                due.is("the first " + n + " codes", guests > 0 ? guests : -100 - n, x.table(0, 0, i, n));
            }
        }
        RoundAsk x = new RoundAsk();
        x.sheet(0, 0, 100);
        for (int k = 0; k < 20; k++) {
            x.put(0, 80 + k, text.charAt(k));
        }
        for (int n = 0; n <= 20; n++) {
            due.is("the last " + n + " cells", n == 20 ? -120 : -100, x.table(0, 0, 100 - n, n));
        }
    }

    private static void refusals() {
        RoundAsk x = Laid.at(Laid.THREE);
        int n = Laid.THREE.length();
        due.is("sheet -1", -1, x.table(-1, 3, 0, n));
        due.is("sheet 4", -1, x.table(4, 0, 0, n));
        due.is("sort -1", -2, x.table(0, -1, 0, n));
        due.is("sort 3", -2, x.table(1, 3, 0, n));
        due.is("another sort", -12, x.table(0, 1, 99, -1));
        due.is("fault", 2, x.fault());
        due.is("nothing", -11, x.table(1, 1, 99, -1));
        due.is("fault", 1, x.fault());
        due.is("n below 0", -14, x.table(0, 0, -1, -1));
        due.is("fault", 4, x.fault());
        due.is("i below 0", -13, x.table(0, 0, -1, n));
        due.is("fault", 3, x.fault());
        due.is("i below 0, none", -13, x.table(0, 0, -1, 0));
        due.is("i beyond, none", -13, x.table(0, 0, n + 1, 0));
        due.is("i at the end, none", -100, x.table(0, 0, n, 0));
        due.is("fault", 0, x.fault());
        due.is("n beyond", -13, x.table(0, 0, 1, n));
        due.is("n far beyond", -13, x.table(0, 0, 1, Integer.MAX_VALUE));
        due.is("refused", -1, x.table(4, 0, 0, n));
        due.is("fault of a refused call", 0, x.fault());
        due.is("the table stays", 3, x.many(0));
        due.is("taken", 3, x.table(0, 0, 0, n));
        due.is("fault", 0, x.fault());
    }

    private static void allAnew() {
        RoundAsk x = Laid.at(Laid.THREE);
        x.say(0, 0, 1);
        x.swap(0, 2);
        x.step(2);
        x.courses(3);
        x.dine();
        x.greet(0);
        x.put(0, 0, 'x');
        due.is("a text with a fault", -100, x.table(0, 0, 0, 22));
        due.is("it changes nothing: says", 1, x.worth(0, 0, true));
        due.is("it changes nothing: seat", 2, x.ofGuest(0, 3));
        due.is("it changes nothing: step", 2, x.many(2));
        due.is("it changes nothing: courses", 3, x.many(3));
        due.is("it changes nothing: evenings", 1, x.many(4));
        x.put(0, 0, 'd');
        due.is("the same text", 3, x.table(0, 0, 0, 22));
        due.is("says", 9, x.worth(0, 0, true));
        for (int g = 0; g < 3; g++) {
            due.is("seat", g, x.ofGuest(g, 3));
            due.is("memory", -8, x.ofGuest(g, 4));
        }
        due.is("step", 1, x.many(2));
        due.is("courses", 1, x.many(3));
        due.is("evenings", 0, x.many(4));
        due.is("trace stays", 4, x.trace());
        due.is("sheets stay", 'd', x.cell(0, 0, 0));
    }

    private static void dishes() {
        RoundAsk x = Laid.at(Laid.THREE);
        due.is("how many of 0", 2, x.ofDish(0, 0));
        due.is("price of 0", 1, x.ofDish(0, 1));
        due.is("how many of 1", 1, x.ofDish(1, 0));
        due.is("price of 1", 3, x.ofDish(1, 1));
        x.dine();
        due.is("how many of 1 after an evening", 1, x.ofDish(1, 0));
        due.is("dish 2", -1, x.ofDish(2, 0));
        due.is("dish -1", -1, x.ofDish(-1, 7));
        due.is("what -1", -2, x.ofDish(0, -1));
        due.is("what 2", -2, x.ofDish(0, 2));
        // A table with more dishes comes and goes: no dish of it stays.
        Laid.table(x, "d6101122334455;k0xxxxx0;c0012345");
        due.is("dish 5", 5, x.ofDish(5, 1));
        Laid.table(x, HEAD + ";k012;c9x0");
        due.is("dish 2 is gone", -1, x.ofDish(2, 0));
    }

    private static void guests() {
        RoundAsk x = Laid.at(Laid.THREE);
        int[][] want = {{0, 2, 0, 0, -8}, {1, 1, 0, 1, -8}, {2, 0, 6, 2, -8}};
        for (int g = 0; g < 3; g++) {
            for (int what = 0; what < 5; what++) {
                due.is("ofGuest(" + g + ", " + what + ")", want[g][what], x.ofGuest(g, what));
            }
        }
        due.is("guest 3", -1, x.ofGuest(3, 0));
        due.is("guest -1", -1, x.ofGuest(-1, 9));
        due.is("what 5", -2, x.ofGuest(0, 5));
        due.is("what -1", -2, x.ofGuest(0, -1));
        x.dine();
        due.is("last of 0", 0, x.ofGuest(0, 4));
        due.is("last of 1", 1, x.ofGuest(1, 4));
        x.step(2);
        x.dine();
        due.is("last of 1: nothing", -9, x.ofGuest(1, 4));
        due.is("last of 2", 1, x.ofGuest(2, 4));
    }

    private static void worths() {
        RoundAsk x = Laid.at(Laid.THREE);
        due.is("truly", 9, x.worth(0, 0, false));
        due.is("says", 9, x.worth(0, 0, true));
        due.is("may not, truly", -1, x.worth(1, 0, false));
        due.is("may not, says", -1, x.worth(1, 0, true));
        due.is("guest 3", -5, x.worth(3, 0, true));
        due.is("guest -1", -5, x.worth(-1, 0, false));
        due.is("dish 2", -5, x.worth(0, 2, true));
        due.is("dish -1", -5, x.worth(0, -1, false));
        x.say(0, 0, 3);
        due.is("truly after say", 9, x.worth(0, 0, false));
        due.is("says after say", 3, x.worth(0, 0, true));
        due.is("another says as before", 4, x.worth(2, 0, true));
    }

    private static void sayings() {
        RoundAsk x = Laid.at(Laid.THREE);
        due.is("say 0", 9, x.say(0, 0, 0));
        due.is("say 9", 0, x.say(0, 0, 9));
        due.is("say -1", -2, x.say(0, 0, -1));
        due.is("say 10", -2, x.say(0, 0, 10));
        due.is("guest 3", -1, x.say(3, 0, 10));
        due.is("guest -1", -1, x.say(-1, 0, 0));
        due.is("dish 2", -1, x.say(0, 2, 10));
        due.is("dish -1", -1, x.say(0, -1, 0));
        due.is("may not, outside", -2, x.say(1, 0, 10));
        due.is("may not", -3, x.say(1, 0, 5));
        due.is("may not still", -1, x.worth(1, 0, true));
        due.is("what he said", 9, x.say(0, 0, 9));
        // Asked for is by what he says, glad he is by what is true.
        x = Laid.at("d29191;k092;k081");
        x.say(1, 1, 9);
        due.is("asked for as he says", 1, x.gets(1, 0));
        due.is("glad by what is true", 10, x.glad(1));
    }

    private static void swaps() {
        RoundAsk x = Laid.at(Laid.THREE);
        due.is("swap(1, 2)", 1, x.swap(1, 2));
        due.is("seat of 1", 2, x.ofGuest(1, 3));
        due.is("seat of 2", 1, x.ofGuest(2, 3));
        due.is("swap(0, 1)", 1, x.swap(0, 1));
        due.is("seat of 0", 2, x.ofGuest(0, 3));
        due.is("seat of 1", 0, x.ofGuest(1, 3));
        due.is("swap(0, 0)", 1, x.swap(0, 0));
        due.is("seat of 0 still", 2, x.ofGuest(0, 3));
        due.is("swap(0, 3)", -1, x.swap(0, 3));
        due.is("swap(-1, 0)", -1, x.swap(-1, 0));
        due.is("swap(3, 0)", -1, x.swap(3, 0));
        due.is("swap(0, -1)", -1, x.swap(0, -1));
        due.is("seat of 2 still", 1, x.ofGuest(2, 3));
        // In the order 0, 2, 1: 0 asks for 2, 2 asks in vain for 1, 1 asks for 0.
        x = Laid.at(Laid.THREE);
        x.swap(1, 2);
        due.is("dine", 195, x.dine());
        due.is("last of 2", 1, x.ofGuest(2, 4));
        due.is("last of 1", -9, x.ofGuest(1, 4));
    }

    private static void steps() {
        RoundAsk x = Laid.at(Laid.THREE);
        due.is("step(2)", 1, x.step(2));
        due.is("step(1)", 2, x.step(1));
        due.is("step(0)", -2, x.step(0));
        due.is("step(3)", -2, x.step(3));
        due.is("step(-1)", -2, x.step(-1));
        due.is("step still", 1, x.many(2));
        x = Laid.at(HEAD + ";k012;c9x0");
        due.is("step(1) of two", 1, x.step(1));
        due.is("step(2) of two", -2, x.step(2));
    }

    private static void courses() {
        RoundAsk x = Laid.at(Laid.THREE);
        due.is("courses(8)", 1, x.courses(8));
        due.is("courses(1)", 8, x.courses(1));
        due.is("courses(0)", -2, x.courses(0));
        due.is("courses(9)", -2, x.courses(9));
        due.is("courses still", 1, x.many(3));
    }
}

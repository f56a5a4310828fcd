/** Promises 1, 3 to 9 and 35 at their edges, a test for each sentence: dishes, guests, says, seats, step, courses. */
public final class EdgeTableTest {
    private static final Due due = new Due();
    // The least table and the greatest one.
    private static final String LEAST = "d21090;k0x0;c90x";
    private static final String GREATEST = "d6" + "919099109010" + ";p99012345;k0543210;c9xxxxx9;p00xxxxx0;k9999999"
        + ";c0000000;p5012345x";
    private static final int[] FAR = {Integer.MIN_VALUE, Integer.MIN_VALUE + 1, -100, 100, Integer.MAX_VALUE};

    public static void main(String[] args) {
        greatestIsATable();
        noTable();
        ofDish();
        ofDishWhat();
        ofGuest();
        ofGuestWhat();
        lastNothingOrNoMemory();
        worth();
        worthMayNot();
        worthUnknown();
        say();
        sayMayNot();
        swap();
        swapUnknown();
        step();
        stepWithoutTable();
        courses();
        coursesWithoutTable();
        many();
        eveningsOfThisTable();
        calls512();
        due.end();
    }

    private static void greatestIsATable() {
        due.is("seven guests", 7, Laid.at(GREATEST).many(0));
        due.is("six dishes", 6, Laid.at(GREATEST).many(1));
    }

    // "No TABLE (no GUESTS, DISHES), SHEETS have nothing."
    private static void noTable() {
        RoundAsk x = new RoundAsk();
        due.is("no guests", 0, x.many(0));
        due.is("no dishes", 0, x.many(1));
        due.is("no guest 0", -1, x.ofGuest(0, 0));
        due.is("no dish 0", -1, x.ofDish(0, 0));
        for (int k = 0; k < 4; k++) {
            due.is("sheet " + k + " has nothing", 0, x.lose(k));
        }
    }

    // "Of a DISH: 0 HOW MANY, 1 PRICE. UNKNOWN"
    private static void ofDish() {
        RoundAsk x = Laid.at(GREATEST);
        int[] want = {9, 1, 9, 0, 9, 9, 1, 0, 9, 0, 1, 0};
        for (int d = 0; d < 6; d++) {
            due.is("how many of " + d, want[2 * d], x.ofDish(d, 0));
            due.is("price of " + d, want[2 * d + 1], x.ofDish(d, 1));
        }
        due.is("dish 6", -1, x.ofDish(6, 0));
        due.is("dish -1", -1, x.ofDish(-1, 0));
        due.is("dish 2 of two", -1, Laid.at(LEAST).ofDish(2, 0));
        for (int d : FAR) {
            due.is("dish " + d, -1, x.ofDish(d, 1));
        }
    }

    // "OUTSIDE" of ofDish
    private static void ofDishWhat() {
        RoundAsk x = Laid.at(LEAST);
        due.is("what -1", -2, x.ofDish(0, -1));
        due.is("what 2", -2, x.ofDish(1, 2));
        for (int what : FAR) {
            due.is("what " + what, -2, x.ofDish(0, what));
        }
    }

    // "Of a GUEST: 0 kind, 1 KIN, 2 CONTENT, 3 his SEAT, 4 what he got last .. UNKNOWN"
    private static void ofGuest() {
        RoundAsk x = Laid.at(GREATEST);
        int[][] want = {{2, 9, 9}, {0, 0, 0}, {1, 9, 0}, {2, 0, 0}, {0, 9, 0}, {1, 0, 0}, {2, 5, 0}};
        for (int g = 0; g < 7; g++) {
            for (int what = 0; what < 3; what++) {
                due.is("ofGuest(" + g + ", " + what + ")", want[g][what], x.ofGuest(g, what));
            }
            due.is("seat of " + g, g, x.ofGuest(g, 3));
            due.is("memory of " + g, -8, x.ofGuest(g, 4));
        }
        due.is("guest 7", -1, x.ofGuest(7, 0));
        due.is("guest -1", -1, x.ofGuest(-1, 0));
        due.is("guest 2 of two", -1, Laid.at(LEAST).ofGuest(2, 0));
        for (int g : FAR) {
            due.is("guest " + g, -1, x.ofGuest(g, 3));
        }
    }

    // "OUTSIDE" of ofGuest
    private static void ofGuestWhat() {
        RoundAsk x = Laid.at(LEAST);
        due.is("what -1", -2, x.ofGuest(0, -1));
        due.is("what 5", -2, x.ofGuest(1, 5));
        for (int what : FAR) {
            due.is("what " + what, -2, x.ofGuest(0, what));
        }
    }

    // "(NONE: NOTHING; -8: he remembers nothing)"
    private static void lastNothingOrNoMemory() {
        // Dish 0 is there once, and both may have it alone.
        RoundAsk x = Laid.at("d21090;k03x;k03x");
        due.is("0 remembers nothing", -8, x.ofGuest(0, 4));
        x.dine();
        due.is("0 remembers NOTHING", -9, x.ofGuest(0, 4));
        due.is("1 remembers dish 0", 0, x.ofGuest(1, 4));
        x.forget();
        due.is("0 remembers nothing any more", -8, x.ofGuest(0, 4));
        due.is("1 remembers nothing any more", -8, x.ofGuest(1, 4));
        x = Laid.at("d6101010101010;k0xxxxx1;k0xxxxx1");
        x.dine();
        due.is("1 remembers dish 5", 5, x.ofGuest(1, 4));
    }

    // "WORTH of a DISH to a GUEST ..; as he SAYS, or truly."
    private static void worth() {
        RoundAsk x = Laid.at(GREATEST);
        for (int d = 0; d < 6; d++) {
            due.is("truly, to 0", d, x.worth(0, d, false));
            due.is("says 0", d, x.worth(0, d, true));
            due.is("truly, to 1", 5 - d, x.worth(1, d, false));
            due.is("truly, to 4", 9, x.worth(4, d, false));
            due.is("truly, to 6", d < 5 ? d + 1 : -1, x.worth(6, d, false));
        }
        x.say(4, 0, 0);
        x.say(1, 5, 9);
        due.is("4 says 0", 0, x.worth(4, 0, true));
        due.is("4 truly", 9, x.worth(4, 0, false));
        due.is("1 says 9", 9, x.worth(1, 5, true));
        due.is("1 truly", 0, x.worth(1, 5, false));
    }

    // "(-1: he may not have it)"
    private static void worthMayNot() {
        RoundAsk x = Laid.at(LEAST);
        for (int g = 0; g < 2; g++) {
            for (int d = 0; d < 2; d++) {
                int want = g == d ? -1 : 0;
                due.is("truly", want, x.worth(g, d, false));
                due.is("says", want, x.worth(g, d, true));
            }
        }
    }

    // "UNKNOWN (told as -5)"
    private static void worthUnknown() {
        RoundAsk x = Laid.at(LEAST);
        for (int bad : new int[] {-1, 2, Integer.MIN_VALUE, Integer.MAX_VALUE}) {
            due.is("guest " + bad, -5, x.worth(bad, 0, true));
            due.is("dish " + bad, -5, x.worth(0, bad, false));
            due.is("both " + bad, -5, x.worth(bad, bad, true));
        }
        due.is("without a table", -5, new RoundAsk().worth(0, 0, true));
        x = Laid.at(GREATEST);
        due.is("guest 7", -5, x.worth(7, 0, true));
        due.is("dish 6", -5, x.worth(0, 6, true));
        due.is("the last ones", -1, x.worth(6, 5, true));
    }

    // "A GUEST SAYS v (0 .. 9) of a DISH: what he said. .. OUTSIDE"
    private static void say() {
        RoundAsk x = Laid.at(LEAST);
        int said = 0;
        for (int v = 0; v <= 9; v++) {
            due.is("say " + v, said, x.say(0, 1, v));
            due.is("says " + v, v, x.worth(0, 1, true));
            due.is("truly as ever", 0, x.worth(0, 1, false));
            due.is("the other one as ever", 0, x.worth(1, 0, true));
            said = v;
        }
        for (int v : new int[] {-1, 10, Integer.MIN_VALUE, Integer.MAX_VALUE}) {
            due.is("say " + v, -2, x.say(0, 1, v));
            due.is("says 9 still", 9, x.worth(0, 1, true));
        }
        for (int bad : new int[] {-1, 2, Integer.MIN_VALUE, Integer.MAX_VALUE}) {
            due.is("guest " + bad, -1, x.say(bad, 0, 5));
            due.is("dish " + bad, -1, x.say(0, bad, 5));
        }
    }

    // "STATE: he may not have it."
    private static void sayMayNot() {
        RoundAsk x = Laid.at(LEAST);
        for (int v : new int[] {0, 9}) {
            due.is("may not", -3, x.say(0, 0, v));
            due.is("may not", -3, x.say(1, 1, v));
            due.is("still he may not", -1, x.worth(0, 0, true));
            due.is("still he may not", -1, x.worth(1, 1, true));
        }
    }

    // "Two GUESTS change SEATS: 1."
    private static void swap() {
        RoundAsk x = Laid.at(GREATEST);
        due.is("the first and the last", 1, x.swap(0, 6));
        due.is("seat of 0", 6, x.ofGuest(0, 3));
        due.is("seat of 6", 0, x.ofGuest(6, 3));
        due.is("the same twice", 1, x.swap(6, 6));
        due.is("seat of 6", 0, x.ofGuest(6, 3));
        due.is("from seat 6 to seat 3", 1, x.swap(0, 3));
        due.is("seat of 0", 3, x.ofGuest(0, 3));
        due.is("seat of 3", 6, x.ofGuest(3, 3));
        due.is("back, told the other way", 1, x.swap(3, 0));
        due.is("seat of 0", 6, x.ofGuest(0, 3));
        due.is("seat of 3", 3, x.ofGuest(3, 3));
        for (int g : new int[] {1, 2, 4, 5}) {
            due.is("seat of " + g, g, x.ofGuest(g, 3));
        }
    }

    // "UNKNOWN" of swap
    private static void swapUnknown() {
        RoundAsk x = Laid.at(GREATEST);
        for (int bad : new int[] {-1, 7, Integer.MIN_VALUE, Integer.MAX_VALUE}) {
            due.is("the first " + bad, -1, x.swap(bad, 0));
            due.is("the second " + bad, -1, x.swap(6, bad));
            due.is("both " + bad, -1, x.swap(bad, bad));
        }
        for (int g = 0; g < 7; g++) {
            due.is("seat of " + g, g, x.ofGuest(g, 3));
        }
        due.is("without a table", -1, new RoundAsk().swap(0, 0));
        due.is("guest 2 of two", -1, Laid.at(LEAST).swap(0, 2));
    }

    // "STEP becomes v (1 .. GUESTS less 1): what it was. OUTSIDE"
    private static void step() {
        for (int n = 2; n <= 7; n++) {
            RoundAsk x = Laid.at("d21010" + ";k000".repeat(n));
            int was = 1;
            for (int v = n - 1; v >= 1; v--) {
                due.is("step " + v + " of " + n, was, x.step(v));
                due.is("step is " + v, v, x.many(2));
                was = v;
            }
            for (int v : new int[] {0, n, -1, -n, n + 1, Integer.MIN_VALUE, Integer.MAX_VALUE}) {
                due.is("step " + v + " of " + n, -2, x.step(v));
                due.is("step is 1", 1, x.many(2));
            }
        }
    }

    // "(without a TABLE any v)"
    private static void stepWithoutTable() {
        RoundAsk x = new RoundAsk();
        for (int v : new int[] {0, 1, 2, 6, 7, -1, Integer.MIN_VALUE, Integer.MAX_VALUE}) {
            due.is("step " + v, -2, x.step(v));
            due.is("no step", 0, x.many(2));
        }
        // A text that is not taken makes no table.
        due.is("one guest", -111, Laid.table(x, "d21010;k000"));
        due.is("step(1) of none", -2, x.step(1));
    }

    // "COURSES become v (1 .. 8): what they were. OUTSIDE"
    private static void courses() {
        RoundAsk x = Laid.at(LEAST);
        int were = 1;
        for (int v = 8; v >= 1; v--) {
            due.is("courses " + v, were, x.courses(v));
            due.is("courses are " + v, v, x.many(3));
            were = v;
        }
        for (int v : new int[] {0, 9, -1, Integer.MIN_VALUE, Integer.MAX_VALUE}) {
            due.is("courses " + v, -2, x.courses(v));
            due.is("courses are 1", 1, x.many(3));
        }
    }

    // "STATE: there is no TABLE" of courses
    private static void coursesWithoutTable() {
        RoundAsk x = new RoundAsk();
        for (int v = 1; v <= 8; v++) {
            due.is("courses " + v, -3, x.courses(v));
            due.is("no courses", 0, x.many(3));
        }
        due.is("courses 0", -2, x.courses(0));
        due.is("courses 9", -2, x.courses(9));
    }

    // "How many: 0 GUESTS, 1 DISHES, 2 STEP, 3 COURSES (2, 3: 0 without a TABLE) .. OUTSIDE"
    private static void many() {
        RoundAsk x = new RoundAsk();
        for (int what = 0; what <= 4; what++) {
            due.is("many(" + what + ") without a table", 0, x.many(what));
        }
        Laid.table(x, GREATEST);
        x.step(6);
        x.courses(8);
        int[] want = {7, 6, 6, 8, 0};
        for (int what = 0; what <= 4; what++) {
            due.is("many(" + what + ")", want[what], x.many(what));
        }
        for (int what : new int[] {-1, 5, Integer.MIN_VALUE, Integer.MAX_VALUE}) {
            due.is("many(" + what + ")", -2, x.many(what));
            due.is("many(" + what + ") without a table", -2, new RoundAsk().many(what));
        }
    }

    // "4 evenings that went by (of this TABLE)"
    private static void eveningsOfThisTable() {
        RoundAsk x = new RoundAsk();
        due.is("no evening without a table", -3, x.dine());
        due.is("none", 0, x.many(4));
        Laid.table(x, LEAST);
        for (int k = 1; k <= 5; k++) {
            x.dine();
            due.is("evenings", k, x.many(4));
        }
        x.forget();
        x.gets(0, 0);
        x.ever(1);
        x.leaves();
        x.spite(0, 0);
        due.is("evenings that are only told", 5, x.many(4));
        due.is("a text that is not taken", -101, x.table(0, 0, 0, 1));
        due.is("evenings stay", 5, x.many(4));
        due.is("the same text again", 2, x.table(0, 0, 0, LEAST.length()));
        due.is("none of this table", 0, x.many(4));
    }

    // "An object is used for at most 512 calls after it has been made"
    private static void calls512() {
        RoundAsk x = Laid.at(Laid.THREE);
        int calls = 1 + Laid.THREE.length() + 1;
        int evenings = 0;
        int trace = 0;
        while (calls < 508) {
            due.is("call " + ++calls, 218, x.dine());
            due.is("call " + ++calls, 1, x.greet(1));
            evenings++;
            trace = 31 * trace + 4;
        }
        due.is("call 509", evenings, x.many(4));
        due.is("call 510", trace, x.trace());
        due.is("call 511", 3, x.forget());
        due.is("call 512", 1, x.gets(1, 0));
        due.is("calls", 508, calls);
    }
}

/** Promises 15 to 17 and part 3 at their edges, a test for each sentence: JUDGED, BEST, SEATS. */
public final class EdgeToldTest {
    private static final Due due = new Due();
    private static final String ALL = "d6999999999999" + ";k9999999".repeat(7);

    public static void main(String[] args) {
        judgeFirst();
        judgeInOrderOfSeats();
        judgeNotLeft();
        judgeMayNot();
        judgeNothing();
        judgeOfEachCourse();
        judgeMost();
        judgeNone();
        judgeUnknownDish();
        judgeTellsOnly();
        bestOfOneCourse();
        bestHowMany();
        bestMayHave();
        bestNothingIsNine();
        bestFirstRow();
        bestAllGlad();
        bestPlaces();
        seatsRows();
        seatsOfGuestNought();
        seatsAims();
        seatsOfNoMemory();
        seatsOfSeveral();
        seatsPlaces();
        asItIsNow();
        withoutTable();
        due.end();
    }

    private static int judge(RoundAsk x, int... row) {
        Laid.row(x, 1, 0, row);
        return x.judge(1, 0, 0, row.length);
    }

    // "the first that can't be"
    private static void judgeFirst() {
        RoundAsk x = Laid.at("d21090;k01x;k0x1");
        // 0 asks for 1, who may have dish 1 alone; 1 asks for 0, who may have dish 0 alone, there once.
        x.courses(2);
        due.is("all can be", -9, judge(x, 1, 0, 1, -9));
        due.is("the first of four", 0, judge(x, 0, 1, 0, 1));
        due.is("the second of three", 1, judge(x, 1, 1, 0, 0));
        due.is("the third of two", 2, judge(x, 1, 0, 0, 0));
        due.is("the last alone", 3, judge(x, 1, 0, 1, 0));
    }

    // "rows of DISHES told (of each COURSE, in order of SEATS, what each asks for ..)", "STEP SEATS on (round)"
    private static void judgeInOrderOfSeats() {
        // Each guest g may have dish g alone.
        RoundAsk x = Laid.at("d4" + "90".repeat(4) + ";k01xxx;k0x1xx;k0xx1x;k0xxx1");
        int[][] rows = {{1, 2, 3, 0}, {2, 3, 0, 1}, {3, 0, 1, 2}};
        for (int step = 1; step <= 3; step++) {
            x.step(step);
            for (int other = 0; other < 3; other++) {
                due.is("step " + step + ", row " + other, other == step - 1 ? -9 : 0, judge(x, rows[other]));
            }
        }
        x.step(1);
        x.swap(0, 3);
        // Seats 3, 1, 2, 0.
        due.is("seats changed", -9, judge(x, 1, 2, 0, 3));
        due.is("seats changed, the last one", 3, judge(x, 1, 2, 0, 0));
    }

    // "it is not left"
    private static void judgeNotLeft() {
        for (int many = 1; many <= 9; many++) {
            RoundAsk x = Laid.at("d2" + many + "090;k011;k011");
            x.courses(8);
            int[] row = new int[10];
            due.is("ten of " + many, many, judge(x, row));
            row[many] = 1;
            due.is("the other one for it", many == 9 ? -9 : many + 1, judge(x, row));
        }
        // What an evening took is there again.
        RoundAsk x = Laid.at("d21010;k01x;k0x1");
        x.dine();
        due.is("after an evening", -9, judge(x, 1, 0));
    }

    // "or that one may not have it"
    private static void judgeMayNot() {
        RoundAsk x = Laid.at("d29090;k0x1;k01x");
        due.is("1 may not have dish 1", 0, judge(x, 1));
        due.is("0 may not have dish 0", 1, judge(x, 0, 0));
        due.is("they may", -9, judge(x, 0, 1));
        // What the one who asks may have makes nothing out, nor what is said.
        x.say(1, 0, 0);
        due.is("he says 0 of it", -9, judge(x, 0, 1));
    }

    // "or NOTHING where something can be"
    private static void judgeNothing() {
        RoundAsk x = Laid.at("d21090;k01x;k01x;k0x1");
        // 0 asks for 1, 1 for 2, 2 for 0; dish 0 is there once.
        due.is("NOTHING for 1", 0, judge(x, -9));
        due.is("NOTHING for 2", 1, judge(x, 0, -9, -9));
        due.is("NOTHING for 0, for whom nothing is left", -9, judge(x, 0, 1, -9));
        due.is("something for 0", 2, judge(x, 0, 1, 0));
        x = Laid.at("d6101010101010;k0xxxxx1;k0xxxxx1");
        due.is("the last dish can be", 0, judge(x, -9));
        due.is("the last dish could be once", -9, judge(x, 5, -9));
    }

    // "(of each COURSE ..)"
    private static void judgeOfEachCourse() {
        RoundAsk x = Laid.at("d29090;k01x;k0x1");
        for (int courses = 1; courses <= 8; courses++) {
            x.courses(courses);
            int[] row = new int[2 * courses];
            for (int c = 0; c < courses; c++) {
                row[2 * c] = 1;
            }
            due.is(courses + " courses", -9, judge(x, row));
            row[2 * courses - 1] = 1;
            due.is(courses + " courses, the last one", 2 * courses - 1, judge(x, row));
        }
    }

    // "n such cells (COURSES times GUESTS at most)", "OUTSIDE: n is above that"
    private static void judgeMost() {
        for (int n = 2; n <= 7; n++) {
            RoundAsk x = Laid.at("d29999" + ";k012".repeat(n));
            Laid.row(x, 1, 1, new int[57]);
            for (int courses = 1; courses <= 8; courses++) {
                x.courses(courses);
                int most = n * courses;
                due.is("as many as can be: " + most, most > 9 ? 9 : -9, x.judge(1, 1, 0, most));
                due.is("one more than " + most, -2, x.judge(1, 1, 0, most + 1));
                due.is("one more than " + most + ", from the end", -2, x.judge(1, 1, 57 - most - 1, most + 1));
            }
        }
        RoundAsk x = Laid.at(ALL);
        x.courses(8);
        Laid.row(x, 2, 2, new int[57]);
        for (int k = 0; k < 57; k++) {
            x.put(2, k, k < 54 ? k / 9 : -9);
        }
        due.is("56 that can be", -9, x.judge(2, 2, 0, 56));
        due.is("57", -2, x.judge(2, 2, 0, 57));
        x.put(2, 55, 0);
        due.is("the last of 56", 55, x.judge(2, 2, 0, 56));
        x.put(2, 53, -9);
        due.is("NOTHING where one is left", 53, x.judge(2, 2, 0, 56));
    }

    // "none of them is taken, too": no cells can be told, then all of them can be
    private static void judgeNone() {
        RoundAsk x = Laid.at(Laid.THREE);
        Laid.row(x, 1, 2, 77, 77);
        for (int i = 0; i <= 2; i++) {
            due.is("none from " + i, -9, x.judge(1, 2, i, 0));
        }
        Laid.row(x, 1, 2);
        due.is("none of none", -9, x.judge(1, 2, 0, 0));
        due.is("i beyond none", -13, x.judge(1, 2, 1, 0));
        due.is("i below none", -13, x.judge(1, 2, -1, 0));
    }

    // "UNKNOWN: a DISH (that is not NOTHING)"
    private static void judgeUnknownDish() {
        for (int m = 2; m <= 6; m++) {
            String text = "d" + m + "90".repeat(m) + (";k0" + "1".repeat(m)).repeat(2);
            for (int sort = 0; sort <= 2; sort++) {
                RoundAsk x = Laid.at(text);
                for (int d = -11; d <= 10; d++) {
                    Laid.row(x, 1, sort, 0, d);
                    int want = d == -9 ? 1 : d < 0 || d >= m ? -1 : -9;
                    due.is("dish " + d + " of " + m, want, x.judge(1, sort, 0, 2));
                    due.is("it is not among the cells told", -9, x.judge(1, sort, 0, 1));
                }
                Laid.row(x, 1, sort, 256, 256 - 9);
                due.is("cut to its sort", sort == 0 ? 1 : -1, x.judge(1, sort, 0, 2));
                Laid.row(x, 1, sort, 65536, 65536 - 9);
                due.is("cut to its sort", sort < 2 ? 1 : -1, x.judge(1, sort, 0, 2));
                for (int far : new int[] {Integer.MIN_VALUE, Integer.MAX_VALUE}) {
                    Laid.row(x, 1, 2, far);
                    due.is("dish " + far, -1, x.judge(1, 2, 0, 1));
                }
            }
        }
    }

    // It is told what can be; nothing is taken, nobody remembers it.
    private static void judgeTellsOnly() {
        RoundAsk x = Laid.at("d21090;k01x;k01x");
        for (int k = 0; k < 3; k++) {
            due.is("the one dish, again", -9, judge(x, 0, -9));
            due.is("nobody remembers it", -8, x.ofGuest(1, 4));
        }
        due.is("it is there yet", 10, x.dine());
    }

    private static void best(String text, int glad, int... row) {
        RoundAsk x = Laid.at(text);
        due.is("best of " + text, glad, x.best(-1));
        for (int g = 0; g < row.length; g++) {
            due.is("best of " + text + " for " + g, row[g], x.best(g));
        }
    }

    // "of one COURSE (all DISHES there)"
    private static void bestOfOneCourse() {
        RoundAsk x = Laid.at("d21010;k01x;k0x1");
        for (int courses = 1; courses <= 8; courses++) {
            x.courses(courses);
            due.is("of one course", 20, x.best(-1));
            x.dine();
            due.is("after an evening", 20, x.best(-1));
            due.is("all are there", 0, x.best(0));
            due.is("all are there", 1, x.best(1));
        }
    }

    // "none oftener than HOW MANY"
    private static void bestHowMany() {
        for (int n = 2; n <= 7; n++) {
            for (int many = 1; many <= 9; many++) {
                RoundAsk x = Laid.at("d2" + many + "090" + ";k05x".repeat(n));
                due.is(many + " for " + n, 50 * Math.min(many, n), x.best(-1));
                for (int g = 0; g < n; g++) {
                    due.is(g + " of " + many, g < many ? 0 : -9, x.best(g));
                }
            }
        }
    }

    // "each a DISH that he may have, or NOTHING"
    private static void bestMayHave() {
        best("d21090;k0x5;k0x9", 140, 1, 1);
        best("d21010;k0x5;k0x9", 90, -9, 1);
        best("d6101010101010;k0xxxxx1;k0xxxxx1", 10, 5, -9);
        best("d6101010101010;k01xxxxx;k0xxxxx1;k0xx1xxx;k0xxx1xx", 40, 0, 5, 2, 3);
    }

    // "(NOTHING counts as 9)"
    private static void bestNothingIsNine() {
        // A dish of WORTH 0 makes none gladder, but comes ahead of NOTHING, the last one too.
        best("d21010;k000;k000", 0, 0, 1);
        best("d21010;k0x0;k000", 0, 1, 0);
        best("d6101010101010;k0xxxxx0;k0xxxxx0", 0, 5, -9);
        best("d21010;k00x;k00x;k0x0", 0, 0, -9, 1);
        best("d21010;k00x;k05x", 50, -9, 0);
    }

    // "of several the first as a row by GUESTS"
    private static void bestFirstRow() {
        best("d29090;k055;k055", 100, 0, 0);
        best("d21090;k055;k055", 100, 0, 1);
        best("d21090;k054;k054", 90, 0, 1);
        best("d21010;k05x;k05x;k05x", 50, 0, -9, -9);
        // 0 gives way to a gladder row, then it is the first again.
        best("d21010;k055;k05x;k055", 100, 0, -9, 1);
        best("d21010;k055;k06x;k055", 110, 1, 0, -9);
        best("d6101010101010" + ";k0555555".repeat(7), 300, 0, 1, 2, 3, 4, 5, -9);
        best("d6101010101010" + ";k0555555".repeat(5) + ";k0444449;k0xxxxx8", 50 * 5 + 90, 0, 1, 2, 3, 4, 5, -9);
    }

    // "so that all GLAD together is the greatest": KIN of the one who asks counts, by seats and step as they are
    private static void bestAllGlad() {
        for (int n = 2; n <= 7; n++) {
            for (int step = 1; step < n; step++) {
                // Dish 0 is there once; KIN of 0 is 9, so it goes to whom 0 asks for.
                RoundAsk x = Laid.at("d21090;k95x" + ";k05x".repeat(n - 1));
                x.step(step);
                due.is("all together", 10 * 5 + 9 * 5, x.best(-1));
                for (int g = 0; g < n; g++) {
                    due.is("guest " + g + " of " + n + ", step " + step, g == step ? 0 : -9, x.best(g));
                }
                x.swap(0, n - 1);
                int target = (n - 1 + step) % n == 0 ? n - 1 : (n - 1 + step) % n;
                due.is("seats changed", 0, x.best(target));
            }
        }
        RoundAsk x = Laid.at(ALL);
        due.is("as glad as can be", 7 * 171, x.best(-1));
        x = Laid.at("d21010;k000;k000");
        due.is("not glad at all", 0, x.best(-1));
        // By what is truly WORTH.
        x = Laid.at("d29090;k090;k009");
        x.say(0, 0, 0);
        x.say(0, 1, 9);
        due.is("whatever he says", 0, x.best(0));
        due.is("all together", 180, x.best(-1));
    }

    // "how GLAD all are together (q -1), what GUEST q gets ..; UNKNOWN: q"
    private static void bestPlaces() {
        for (int n = 2; n <= 7; n++) {
            RoundAsk x = Laid.at("d29090" + ";k01x".repeat(n));
            due.is("q -1", 10 * n, x.best(-1));
            due.is("the first", 0, x.best(0));
            due.is("the last", 0, x.best(n - 1));
            for (int bad : new int[] {-2, n, -9, Integer.MIN_VALUE, Integer.MAX_VALUE}) {
                due.is("q " + bad + " of " + n, -1, x.best(bad));
            }
        }
    }

    // "rows of GUESTS by SEATS (GUEST 0 in SEAT 0)"
    private static void seatsRows() {
        for (int n = 2; n <= 7; n++) {
            RoundAsk x = Laid.at("d29090" + ";k01x".repeat(n));
            x.swap(0, n - 1);
            for (int aim = 0; aim < 2; aim++) {
                for (int s = 0; s < n; s++) {
                    due.is("seat " + s + " of " + n, s, x.seats(aim, s));
                }
            }
            due.is("they sit as they did", n - 1, x.ofGuest(0, 3));
        }
    }

    // "(GUEST 0 in SEAT 0)": though a row with another one there would be better
    private static void seatsOfGuestNought() {
        for (int n = 2; n <= 7; n++) {
            for (int step = 1; step < n; step++) {
                // Dish 0 is there once, and worth something to 0 alone; only 0 never asks for himself.
                RoundAsk x = Laid.at("d21090;k09x" + ";k00x".repeat(n - 1));
                x.step(step);
                due.is("he who asks first is 0, of " + n, 0, x.seats(0, -1));
                due.is("seat 0 of " + n, 0, x.seats(0, 0));
                x.swap(0, step);
                due.is("as they sit now the first one asks for 0", 90, x.dine());
                due.is("he who asks first is 0, of " + n, 0, x.seats(0, -1));
                due.is("seat 0 of " + n, 0, x.seats(0, 0));
            }
        }
    }

    // "all GLAD together is the greatest (aim 0), the least of one GUEST is (aim 1)"
    private static void seatsAims() {
        // Dish 0 is there once, and goes to the one in seat 1: 1 would be glad of it by 90, 2 by 50; of
        // dish 1 they are glad by 40 and 20. So 110 and 20 at least, or 90 and 40 at least.
        RoundAsk x = Laid.at("d21191;k0x9;k094;k052");
        int[] glad = {200, 40};
        for (int aim = 0; aim < 2; aim++) {
            due.is("aim " + aim, glad[aim], x.seats(aim, -1));
            due.is("seat 0, aim " + aim, 0, x.seats(aim, 0));
            due.is("seat 1, aim " + aim, aim + 1, x.seats(aim, 1));
            due.is("seat 2, aim " + aim, 2 - aim, x.seats(aim, 2));
        }
        // The least one may be 0, who sits where he sits, or the last one.
        due.is("the least is 0", 10, Laid.at("d29090;k01x;k09x;k09x").seats(1, -1));
        due.is("the least is 2", 10, Laid.at("d29090;k09x;k09x;k01x").seats(1, -1));
        due.is("the least is glad of nothing", 0, Laid.at("d29090;k09x;k09x;k00x").seats(1, -1));
        x = Laid.at(ALL);
        x.courses(8);
        due.is("as glad as can be", 54 * 171, x.seats(0, -1));
        due.is("the least of them", 7 * 171, x.seats(1, -1));
        for (int bad : new int[] {-1, 2, Integer.MIN_VALUE, Integer.MAX_VALUE}) {
            due.is("aim " + bad, -2, x.seats(bad, 0));
        }
    }

    // "in an evening of those who remember nothing"
    private static void seatsOfNoMemory() {
        // 0 gets what is worth 0 to him, and from then on asks the least worth.
        RoundAsk x = Laid.at("d39090" + "90;p090xx;k0x91");
        due.is("ahead of an evening", 90, x.seats(0, -1));
        x.dine();
        due.is("now he is not content", 10, x.glad(1));
        due.is("after an evening", 90, x.seats(0, -1));
        x.courses(2);
        due.is("in an evening of two courses he remembers the first", 100, x.seats(0, -1));
        due.is("the least of one", 0, x.seats(1, -1));
        due.is("memory stays", 0, x.ofGuest(0, 4));
    }

    // "of several the first as a row"
    private static void seatsOfSeveral() {
        // Of 720 rows the last alone is the best; see what each may have.
        RoundAsk x = Laid.at("d6111111111111;k0000000;k0xxxx98;k0xxx98x;k0xx98xx;k0x98xxx;k098xxxx;k09xxxxx");
        for (int s = 0; s < 7; s++) {
            due.is("the last row, seat " + s, s == 0 ? 0 : 7 - s, x.seats(0, s));
        }
        // Who sits in seat 1 is given the one dish that is worth anything: the rest in their order.
        for (int g = 1; g < 7; g++) {
            StringBuilder text = new StringBuilder("d21090;k000");
            for (int h = 1; h < 7; h++) {
                text.append(h == g ? ";k090" : ";k000");
            }
            x = Laid.at(text.toString());
            due.is("seat 1", g, x.seats(0, 1));
            int seat = 2;
            for (int h = 1; h < 7; h++) {
                if (h != g) {
                    due.is("seat " + seat, h, x.seats(0, seat));
                    seat++;
                }
            }
            due.is("90 for him", 90, x.seats(0, -1));
            due.is("nothing for another one", 0, x.seats(1, -1));
            due.is("so any row is as good: the first", 1, x.seats(1, 1));
        }
    }

    // "what it comes to (q -1), the GUEST in SEAT q. .. UNKNOWN: q"
    private static void seatsPlaces() {
        for (int n = 2; n <= 7; n++) {
            RoundAsk x = Laid.at("d29090" + ";k01x".repeat(n));
            due.is("aim 0", 10 * n, x.seats(0, -1));
            due.is("aim 1", 10, x.seats(1, -1));
            due.is("the last seat", n - 1, x.seats(1, n - 1));
            for (int bad : new int[] {-2, n, -9, Integer.MIN_VALUE, Integer.MAX_VALUE}) {
                due.is("q " + bad + " of " + n, -1, x.seats(0, bad));
                due.is("q " + bad + " of " + n, -1, x.seats(1, bad));
            }
        }
    }

    // What is best, and who should sit where, hangs on the table as it is at the call.
    private static void asItIsNow() {
        RoundAsk x = Laid.at("d21090;k95x;k05x;k05x");
        due.is("0 asks for 1", 0, x.best(1));
        due.is("so all are glad", 95, x.seats(0, -1));
        x.step(2);
        due.is("0 asks for 2", 0, x.best(2));
        due.is("seat 2 is the one 0 asks for", 1, x.seats(0, 1));
        x.swap(1, 2);
        due.is("0 asks for 1", 0, x.best(1));
        x.say(0, 0, 0);
        due.is("so all are glad still", 95, x.seats(0, -1));
        x.courses(2);
        due.is("one dish for two courses", 95, x.seats(0, -1));
        x = Laid.at("d29191;k091;k091");
        due.is("by the truth", 180, x.seats(0, -1));
        due.is("the least by the truth", 90, x.seats(1, -1));
        x.say(0, 0, 0);
        due.is("0 says other", 100, x.seats(0, -1));
        due.is("the least is 0", 10, x.seats(1, -1));
        x.courses(3);
        due.is("in three courses", 300, x.seats(0, -1));
        due.is("the least in three courses", 30, x.seats(1, -1));
        Laid.table(x, "d29191;k092;k092;k092");
        due.is("at another table", 270, x.seats(0, -1));
        due.is("at another table the last one", 0, x.best(2));
    }

    // "STATE: there is no TABLE."
    private static void withoutTable() {
        RoundAsk x = new RoundAsk();
        Laid.row(x, 0, 0, -9);
        due.is("judge", -3, x.judge(0, 0, 0, 1));
        due.is("judge of none", -3, x.judge(0, 0, 0, 0));
        due.is("best", -3, x.best(-1));
        due.is("seats 0", -3, x.seats(0, -1));
        due.is("seats 1", -3, x.seats(1, -1));
        due.is("a text that is not taken", -101, Laid.table(x, "d"));
        due.is("best still", -3, x.best(-1));
    }
}

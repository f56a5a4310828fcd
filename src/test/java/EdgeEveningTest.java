/** Promises 10 to 14 and part 2 at their edges, a test for each sentence: what each gets, GLAD, PAYS. */
public final class EdgeEveningTest {
    private static final Due due = new Due();

    public static void main(String[] args) {
        round();
        orderOfSeats();
        dishesLeft();
        mayHave();
        nothing();
        kindTies();
        cheapTies();
        payerTies();
        asThatOneSays();
        contentLessEqualMore();
        contentOfNothing();
        contentOfNoMemory();
        fromCourseToCourse();
        fromTheMoment();
        fromEveningToEvening();
        anEvening();
        glad();
        gladOfMost();
        pays();
        paysAlike();
        paysRefused();
        getsRefused();
        gladRefused();
        dineWithoutTable();
        forget();
        onlyTold();
        due.end();
    }

    // "in order of SEATS each GUEST asks for the one who sits STEP SEATS on (round)"
    private static void round() {
        for (int n = 2; n <= 7; n++) {
            for (int step = 1; step < n; step++) {
                StringBuilder text = new StringBuilder("d29090");
                for (int g = 0; g < n; g++) {
                    text.append(";k1").append(g + 1).append("x");
                }
                RoundAsk x = Laid.at(text.toString());
                x.step(step);
                for (int g = 0; g < n; g++) {
                    int target = (g + step) % n;
                    due.is(g + " asks for " + target, 10 * (g + 1) + target + 1, x.glad(g));
                }
            }
        }
    }

    // "in order of SEATS": the first ones are given what there is once
    private static void orderOfSeats() {
        RoundAsk x = Laid.at("d21090;k09x;k09x;k09x");
        due.is("seat 0 asks first, for 1", 0, x.gets(1, 0));
        x.swap(0, 2);
        // Seats 2, 1, 0: 2 asks for 1.
        due.is("seat 0 asks for 1", 0, x.gets(1, 0));
        x.swap(1, 2);
        // Seats 1, 2, 0: 1 asks for 2.
        due.is("seat 0 asks for 2", 0, x.gets(2, 0));
        x.step(2);
        due.is("seat 0 asks for 0", 0, x.gets(0, 0));
        due.is("not for 1", -9, x.gets(1, 0));
        due.is("not for 2", -9, x.gets(2, 0));
    }

    // "for one of the DISHES that are left", "of all DISHES there are HOW MANY"
    private static void dishesLeft() {
        for (int first = 1; first <= 9; first++) {
            for (int second = 1; second <= 9; second++) {
                RoundAsk x = Laid.at("d2" + first + "1" + second + "2;k091;k091");
                x.courses(8);
                int gladInAll = 0;
                for (int k = 0; k < 16; k++) {
                    int want = k < first ? 0 : k < first + second ? 1 : -9;
                    gladInAll += want == 0 ? 90 : want == 1 ? 10 : 0;
                    due.is("asking " + k + " of " + first + " and " + second, want, x.gets(1 - k % 2, k / 2));
                }
                due.is("an evening", gladInAll, x.dine());
                due.is("as the next begins all are there", gladInAll, x.dine());
            }
        }
    }

    // "and that that one may have"
    private static void mayHave() {
        RoundAsk x = Laid.at("d6909090909090;k0xx0xxx;k0xxxxx1");
        due.is("the one that 0 may have", 2, x.gets(0, 0));
        due.is("the one that 1 may have", 5, x.gets(1, 0));
        x = Laid.at("d6909090909090;c01xxxxx;c0xxx1xx");
        due.is("the first one", 0, x.gets(0, 0));
        due.is("of a CHEAP one", 3, x.gets(1, 0));
    }

    // "if there is none, he gets NOTHING (WORTH, PRICE 0)"
    private static void nothing() {
        // Dish 0 is there once, at 7; dish 1 nine times, for nobody.
        RoundAsk x = Laid.at("d21790;k99x;k99x");
        due.is("1 gets the one", 0, x.gets(1, 0));
        due.is("0 gets NOTHING", -9, x.gets(0, 0));
        due.is("0 is glad of 1 alone", 81, x.glad(0));
        due.is("1 is glad of his own alone", 90, x.glad(1));
        due.is("0 pays for 1", 7, x.pays(0, false, 0));
        due.is("1 pays for NOTHING 0", 0, x.pays(1, false, 0));
        due.is("1 pays 0 by 1", 1, x.pays(1, false, 1));
        due.is("together", 171, x.dine());
    }

    /** A table of three dishes, each there nine times; 0 is of a kind, and gets what is worth 0 to him. */
    private static RoundAsk asked(String one, int[] price, int[] worth) {
        StringBuilder text = new StringBuilder("d3");
        StringBuilder signs = new StringBuilder();
        for (int d = 0; d < 3; d++) {
            text.append(9).append(price[d]);
            signs.append(worth[d] < 0 ? "x" : worth[d]);
        }
        return Laid.at(text + ";" + one + "000;k0" + signs);
    }

    private interface Sooner {
        boolean is(int price, int worth, int thanPrice, int thanWorth);
    }

    /** Of three dishes that are alike or not in worth and price, with the least and the greatest of both. */
    private static void ties(String one, int evenings, Sooner sooner) {
        int[] some = {-1, 0, 1, 8, 9};
        for (int k = 0; k < 64 * 125; k++) {
            int[] price = {some[1 + k % 4], some[1 + k / 4 % 4], some[1 + k / 16 % 4]};
            int[] worth = {some[k / 64 % 5], some[k / 320 % 5], some[k / 1600]};
            int want = -9;
            for (int d = 0; d < 3; d++) {
                if (worth[d] >= 0 && (want < 0 || sooner.is(price[d], worth[d], price[want], worth[want]))) {
                    want = d;
                }
            }
            if (want >= 0) {
                RoundAsk x = asked(one, price, worth);
                for (int e = 0; e < evenings; e++) {
                    x.dine();
                }
                due.is(one + " prices " + price[0] + price[1] + price[2] + " worth " + worth[0] + " " + worth[1] + " "
                    + worth[2], want, x.gets(1, 0));
            }
        }
    }

    // "A KIND one asks for that of the greatest WORTH ..; of several that of the least PRICE; then the least number."
    private static void kindTies() {
        ties("k0", 0, (p, w, thanP, thanW) -> w > thanW || w == thanW && p < thanP);
        ties("k0", 1, (p, w, thanP, thanW) -> w > thanW || w == thanW && p < thanP);
    }

    // "A CHEAP one for that of the least PRICE; of several the greatest WORTH so; then the least number."
    private static void cheapTies() {
        ties("c0", 0, (p, w, thanP, thanW) -> p < thanP || p == thanP && w > thanW);
        ties("c0", 1, (p, w, thanP, thanW) -> p < thanP || p == thanP && w > thanW);
    }

    // "A PAYER does as a KIND one; but .. he asks for that of the least WORTH so; of several as a CHEAP one would."
    private static void payerTies() {
        ties("p09", 0, (p, w, thanP, thanW) -> w > thanW || w == thanW && p < thanP);
        ties("p00", 1, (p, w, thanP, thanW) -> w > thanW || w == thanW && p < thanP);
        ties("p01", 1, (p, w, thanP, thanW) -> w < thanW || w == thanW && p < thanP);
    }

    // "as that one SAYS"
    private static void asThatOneSays() {
        String[] ones = {"k0", "c0", "p09"};
        for (int kind = 0; kind < 3; kind++) {
            // Three dishes at the same price; 1 says 0, 9, 5 of them, by truth it is 9, 0, 5.
            RoundAsk x = Laid.at("d3919191;" + ones[kind] + "111;k0905");
            x.say(1, 0, 0);
            x.say(1, 1, 9);
            due.is("the one of which he says 9", 1, x.gets(1, 0));
            due.is("glad is he by what is true", 0, x.glad(1));
            x.dine();
            due.is("then", kind == 2 ? 0 : 1, x.gets(1, 0));
            due.is("glad is he by what is true", kind == 2 ? 90 : 0, x.glad(1));
        }
        // What the one who asks says himself makes nothing out.
        RoundAsk x = Laid.at("d29191;k091;k091");
        x.say(0, 0, 0);
        x.say(0, 1, 9);
        due.is("0 asks as 1 says", 0, x.gets(1, 0));
        due.is("1 asks as 0 says", 1, x.gets(0, 0));
    }

    // "if what he got last .. was truly WORTH less than CONTENT to himself"
    private static void contentLessEqualMore() {
        for (int worth = 0; worth <= 9; worth++) {
            for (int content = 0; content <= 9; content++) {
                RoundAsk x = Laid.at("d3909090;p0" + content + worth + "xx;k0x91");
                x.dine();
                due.is("worth " + worth + ", CONTENT " + content, worth < content ? 2 : 1, x.gets(1, 0));
                // What he says of it makes nothing out.
                x.say(0, 0, 9 - worth);
                due.is("as he says other", worth < content ? 2 : 1, x.gets(1, 0));
            }
        }
    }

    // "(he remembers it; NOTHING, too)", "NOTHING (WORTH, PRICE 0)"
    private static void contentOfNothing() {
        for (int content = 0; content <= 9; content++) {
            // Dish 0 is there once: 0 asks it for 1, and is given NOTHING himself.
            RoundAsk x = Laid.at("d3109090;p0" + content + "9xx;k09x1");
            due.is("dish 0 for 1", 0, x.gets(1, 0));
            x.dine();
            due.is("NOTHING", -9, x.ofGuest(0, 4));
            due.is("CONTENT " + content, 0 < content ? 2 : 0, x.gets(1, 0));
        }
    }

    // He who remembers nothing does as a KIND one, whatever his CONTENT.
    private static void contentOfNoMemory() {
        for (int content = 0; content <= 9; content++) {
            RoundAsk x = Laid.at("d3909090;p0" + content + "0xx;k0x91");
            due.is("he remembers nothing", 1, x.gets(1, 0));
            x.dine();
            x.forget();
            due.is("he has forgotten", 1, x.gets(1, 0));
        }
    }

    // "What each got last he remembers from COURSE to COURSE"
    private static void fromCourseToCourse() {
        for (int worth = 0; worth <= 9; worth++) {
            RoundAsk x = Laid.at("d3909090;p05" + worth + "xx;k0x91");
            x.courses(8);
            due.is("course 0", 1, x.gets(1, 0));
            for (int c = 1; c < 8; c++) {
                due.is("course " + c + ", worth " + worth, worth < 5 ? 2 : 1, x.gets(1, c));
            }
        }
        // What counts is the last one alone: of the cheap dish 0 there is but one.
        RoundAsk x = Laid.at("d410919090;p0536xx;c0xx91");
        x.courses(3);
        int[] his = {0, 1, 1};
        int[] others = {2, 3, 2};
        for (int c = 0; c < 3; c++) {
            due.is("0 gets in course " + c, his[c], x.gets(0, c));
            due.is("0 asks in course " + c, others[c], x.gets(1, c));
        }
    }

    // "(also within one: from the moment it is put before him)"
    private static void fromTheMoment() {
        for (int worth = 0; worth <= 9; worth++) {
            for (int content = 0; content <= 9; content++) {
                // 0 asks for the payer 1, who asks for 0 a moment later.
                RoundAsk x = Laid.at("d3909090;k0x91;p0" + content + worth + "xx");
                due.is("worth " + worth + ", CONTENT " + content, worth < content ? 2 : 1, x.gets(0, 0));
            }
        }
    }

    // "and from evening to evening"
    private static void fromEveningToEvening() {
        RoundAsk x = Laid.at("d3909090;p014xx;p010xx;k0x91");
        for (int e = 0; e < 9; e++) {
            due.is("evening " + e + ": 1 is not content with 0", 2, x.gets(2, 0));
            x.dine();
        }
        x.step(2);
        due.is("0 is content with 4", 1, x.gets(2, 0));
        x.courses(5);
        due.is("0 is content to the last course", 1, x.gets(2, 4));
        // Of dish 0 there are nine: the tenth asking, the last one of the evening, is in vain, and that counts.
        x.step(1);
        x.dine();
        due.is("0 got NOTHING last", -9, x.ofGuest(0, 4));
        x.step(2);
        due.is("0 is not content as the next evening begins", 2, x.gets(2, 0));
        due.is("0 is content again", 1, x.gets(2, 1));
    }

    // "AN EVENING is so many COURSES (1 .. 8)"
    private static void anEvening() {
        RoundAsk x = Laid.at("d29090;k010;k010");
        for (int courses = 1; courses <= 8; courses++) {
            x.courses(courses);
            due.is(courses + " courses", 10 * (Math.min(9, 2 * courses)), x.dine());
            due.is("the last one", courses < 5 ? 0 : 1, x.gets(0, courses - 1));
            due.is("none beyond", -1, x.gets(0, courses));
        }
    }

    // "GLAD of a GUEST ..: for each COURSE ten times WORTH of what he got, and KIN times WORTH to that one .."
    private static void glad() {
        for (int kin = 0; kin <= 9; kin += 9) {
            for (int his = 0; his <= 9; his += 9) {
                for (int others = 0; others <= 9; others += 9) {
                    RoundAsk x = Laid.at("d29090;k" + kin + his + "x;k0x" + others);
                    for (int courses = 1; courses <= 8; courses++) {
                        x.courses(courses);
                        due.is("GLAD in " + courses, courses * (10 * his + kin * others), x.glad(0));
                        due.is("the other one", courses * 10 * others, x.glad(1));
                        due.is("together", courses * (10 * his + kin * others + 10 * others), x.dine());
                    }
                }
            }
        }
        // WORTH to that one, not to himself.
        due.is("to that one", 9 * 7 + 10, Laid.at("d29090;k91x;k0x7").glad(0));
    }

    // As glad as can be: seven guests, eight courses, 54 DISHES for 56 askings.
    private static void gladOfMost() {
        RoundAsk x = Laid.at("d6999999999999" + ";k9999999".repeat(7));
        x.courses(8);
        for (int c = 0; c < 8; c++) {
            for (int g = 0; g < 7; g++) {
                // Seat 0 asks for 1, seat 6 for 0; the last two askings are in vain.
                int asking = 7 * c + (g + 6) % 7;
                due.is("gets " + g + " in " + c, asking < 54 ? asking / 9 : -9, x.gets(g, c));
            }
        }
        due.is("0 gets seven, and asks eight", 7 * 90 + 8 * 81, x.glad(0));
        due.is("1 gets eight, and asks eight", 8 * 90 + 8 * 81, x.glad(1));
        due.is("5 gets eight, and asks seven", 8 * 90 + 7 * 81, x.glad(5));
        due.is("6 gets seven, and asks seven", 7 * 90 + 7 * 81, x.glad(6));
        due.is("0 pays", 72, x.pays(0, false, 0));
        due.is("6 pays", 63, x.pays(6, false, 0));
        due.is("alike", 486, x.pays(6, true, 0));
        due.is("alike, by", 7, x.pays(6, true, 1));
        due.is("together", 54 * 171, x.dine());
        due.is("and again", 54 * 171, x.dine());
        due.is("all remember, two of them NOTHING", 7, x.forget());
    }

    // "He PAYS for what he asked for"; "Shares are told as upper and lower number (above 0)"
    private static void pays() {
        for (int price = 0; price <= 9; price++) {
            RoundAsk x = Laid.at("d29" + price + "90;k01x;k0x1");
            for (int courses = 1; courses <= 8; courses += 7) {
                x.courses(courses);
                due.is("1 asks at " + price, price * courses, x.pays(1, false, 0));
                due.is("0 asks at 0", 0, x.pays(0, false, 0));
                due.is("by 1", 1, x.pays(1, false, 1));
                due.is("0 by 1", 1, x.pays(0, false, 1));
            }
        }
    }

    // "or ALIKE: all together, by GUESTS", "in least terms"
    private static void paysAlike() {
        for (int n = 2; n <= 7; n++) {
            for (int many = 1; many <= 9; many++) {
                RoundAsk x = Laid.at("d2" + many + "690" + ";k05x".repeat(n));
                x.courses(2);
                int upper = 6 * Math.min(many, 2 * n);
                int lower = n;
                for (int by = 2; by <= 7; by++) {
                    while (upper % by == 0 && lower % by == 0) {
                        upper /= by;
                        lower /= by;
                    }
                }
                for (int g = 0; g < n; g += n - 1) {
                    due.is(many + " at 6, of " + n, upper, x.pays(g, true, 0));
                    due.is(many + " at 6, of " + n + ", by", lower, x.pays(g, true, 1));
                }
            }
            RoundAsk x = Laid.at("d29090" + ";k05x".repeat(n));
            due.is("nothing, of " + n, 0, x.pays(n - 1, true, 0));
            due.is("nothing, of " + n + ", by", 1, x.pays(n - 1, true, 1));
        }
    }

    // "LOST: UNKNOWN; OUTSIDE: which."
    private static void paysRefused() {
        RoundAsk x = Laid.at(Laid.THREE);
        for (int bad : new int[] {-1, 3, Integer.MIN_VALUE, Integer.MAX_VALUE}) {
            due.is("guest " + bad, RoundAsk.LOST, x.pays(bad, false, 0));
            due.is("guest " + bad + ", alike", RoundAsk.LOST, x.pays(bad, true, 1));
        }
        for (int bad : new int[] {-1, 2, Integer.MIN_VALUE, Integer.MAX_VALUE}) {
            due.is("which " + bad, RoundAsk.LOST, x.pays(0, false, bad));
            due.is("which " + bad + ", alike", RoundAsk.LOST, x.pays(2, true, bad));
        }
        due.is("without a table", RoundAsk.LOST, new RoundAsk().pays(0, false, 0));
        due.is("without a table, alike", RoundAsk.LOST, new RoundAsk().pays(0, true, 1));
    }

    // "UNKNOWN: GUEST, COURSE." of gets
    private static void getsRefused() {
        RoundAsk x = Laid.at(Laid.THREE);
        for (int courses = 1; courses <= 8; courses++) {
            x.courses(courses);
            due.is("the last course", courses == 1 ? 0 : -9, x.gets(0, courses - 1));
            for (int bad : new int[] {-1, courses, 8, 9, Integer.MIN_VALUE, Integer.MAX_VALUE}) {
                if (bad != courses - 1) {
                    due.is("course " + bad + " of " + courses, -1, x.gets(0, bad));
                }
            }
        }
        for (int bad : new int[] {-1, 3, 7, Integer.MIN_VALUE, Integer.MAX_VALUE}) {
            due.is("guest " + bad, -1, x.gets(bad, 0));
        }
        due.is("without a table", -1, new RoundAsk().gets(0, 0));
    }

    // "How GLAD he would be of it in all. UNKNOWN."
    private static void gladRefused() {
        RoundAsk x = Laid.at(Laid.THREE);
        for (int bad : new int[] {-1, 3, 7, Integer.MIN_VALUE, Integer.MAX_VALUE}) {
            due.is("guest " + bad, -1, x.glad(bad));
        }
        due.is("the last one", 40, x.glad(2));
        due.is("without a table", -1, new RoundAsk().glad(0));
    }

    // "STATE: there is no TABLE." of dine
    private static void dineWithoutTable() {
        RoundAsk x = new RoundAsk();
        due.is("dine", -3, x.dine());
        Laid.table(x, "d21010;k000");
        due.is("dine, a text not taken", -3, x.dine());
        Laid.table(x, "d21010;k000;k000");
        due.is("dine, glad of nothing", 0, x.dine());
    }

    // "All forget what they got: how many remembered."
    private static void forget() {
        due.is("without a table", 0, new RoundAsk().forget());
        for (int n = 2; n <= 7; n++) {
            RoundAsk x = Laid.at("d21090" + ";k09x".repeat(n));
            due.is("none remembers", 0, x.forget());
            x.dine();
            due.is("all remember, most of them NOTHING", n, x.forget());
            due.is("all have forgotten", 0, x.forget());
            for (int g = 0; g < n; g++) {
                due.is(g + " has forgotten", -8, x.ofGuest(g, 4));
            }
        }
    }

    // "What a GUEST would get": told alone, nothing goes by
    private static void onlyTold() {
        RoundAsk x = Laid.at("d3109191;p999x1;p0991x");
        for (int e = 0; e < 3; e++) {
            long told = x.glad(0) + x.glad(1);
            int first = x.gets(0, 0);
            int second = x.gets(1, 0);
            x.pays(0, false, 0);
            due.is("evenings", e, x.many(4));
            due.is("dine is what was told", told, x.dine());
            due.is("0 got what was told", first, x.ofGuest(0, 4));
            due.is("1 got what was told", second, x.ofGuest(1, 4));
        }
    }
}

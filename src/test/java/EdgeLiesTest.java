/** Promises 22 to 24 and part 5 at their edges, a test for each sentence: LIES, CHAIR, LAW. */
public final class EdgeLiesTest {
    private static final Due due = new Due();
    private static final String ALL = "d6999999999999" + ";k9999999".repeat(7);

    public static void main(String[] args) {
        lie();
        lieIfMore();
        lieTheLeast();
        lieFromNow();
        lieOfWhatHeMayHave();
        lieToACheapOne();
        liesRefused();
        chair();
        chairBySeats();
        chairFromNow();
        chairOfThree();
        chairByStep();
        chairRefused();
        law();
        lawTheLeast();
        lawFromNow();
        lawRefused();
        onlyTold();
        due.end();
    }

    // "he SAYS of one DISH 9, of all others 0: that by which he is the GLADDEST"
    private static void lie() {
        for (int m = 2; m <= 6; m++) {
            for (int d = 0; d < m; d++) {
                // CHEAP 0 asks for 1 by what 1 says, as all are at one price; 1 says 9 of what is worth least.
                String worth = "1".repeat(d) + "8" + "1".repeat(m - 1 - d);
                RoundAsk x = Laid.at("d" + m + "95".repeat(m) + ";c0" + "5".repeat(m) + ";k0" + worth);
                x.say(1, d, 0);
                due.is("asked is another dish", 10, x.glad(1));
                due.is("9 of dish " + d + " of " + m, d, x.lies(1, 0));
                due.is("so he is glad by 80", 80, x.lies(1, 1));
            }
        }
        // Of all others 0, of each: in the second course the least price decides among them.
        RoundAsk x = Laid.at("d415919293;k05555;k09173");
        x.courses(2);
        due.is("9 and 7", 160, x.glad(1));
        due.is("9, and of the others the cheapest: 1", -9, x.lies(1, 0));
        x.say(1, 0, 0);
        due.is("7 and 7", 140, x.glad(1));
        due.is("7 twice by a lie, too; 9 and 1 is less", -9, x.lies(1, 0));
        due.is("as it is", 140, x.lies(1, 1));
    }

    // "if more than as all SAY now; .. NONE"
    private static void lieIfMore() {
        RoundAsk x = Laid.at("d29191;k055;k091");
        due.is("as glad by the truth", -9, x.lies(1, 0));
        due.is("as it is", 90, x.lies(1, 1));
        x.say(1, 0, 0);
        due.is("gladder than by what he says now", 0, x.lies(1, 0));
        due.is("by it", 90, x.lies(1, 1));
        x = Laid.at("d29191;k000;k000");
        due.is("never glad", -9, x.lies(0, 0));
        due.is("never glad", 0, x.lies(0, 1));
        // It is all his GLAD: KIN counts, too.
        x = Laid.at("d21191;k098;k995");
        due.is("1 gets dish 0, 0 gets dish 1", 90 + 72, x.glad(1));
        due.is("by 9 of dish 1 he gets 5, and 0 gets 9", -9, x.lies(1, 0));
        x = Laid.at("d21191;k090;k965");
        due.is("1 gets dish 0, 0 gets what is worth 0", 60, x.glad(1));
        due.is("by 9 of dish 1 he gets 5, and 0 gets 9", 1, x.lies(1, 0));
        due.is("50 and 9 times 9", 131, x.lies(1, 1));
    }

    // "of several the least"
    private static void lieTheLeast() {
        RoundAsk x = Laid.at("d6919191919191;k0555555;k0188818");
        x.say(1, 0, 9);
        due.is("of dishes 1, 2, 3 and 5", 1, x.lies(1, 0));
        due.is("by each", 80, x.lies(1, 1));
        x = Laid.at("d6919191919191;k0555555;k0188819");
        x.say(1, 0, 9);
        x.say(1, 5, 0);
        due.is("the last one by more", 5, x.lies(1, 0));
        due.is("by it", 90, x.lies(1, 1));
    }

    // "in an evening from what is remembered now"
    private static void lieFromNow() {
        // 0 is not content once he remembers: he asks the least.
        RoundAsk x = Laid.at("d29191;p0955;k091");
        due.is("nothing remembered", -9, x.lies(1, 0));
        x.dine();
        due.is("0 asks the least: 9 of the other one", 1, x.lies(1, 0));
        due.is("by it", 90, x.lies(1, 1));
        x.forget();
        due.is("forgotten", -9, x.lies(1, 0));
        // Of all COURSES of it: the first one is as it was, in the second one 0 asks the least.
        x.courses(2);
        due.is("9 and 1", 100, x.glad(1));
        due.is("by no lie more", -9, x.lies(1, 0));
    }

    // He SAYS nothing of a DISH that he may not have.
    private static void lieOfWhatHeMayHave() {
        RoundAsk x = Laid.at("d3919191;k0555;k0x19");
        x.say(1, 1, 9);
        x.say(1, 2, 0);
        due.is("dish 2", 2, x.lies(1, 0));
        due.is("by it", 90, x.lies(1, 1));
        due.is("he may not have dish 0 still", -1, x.worth(1, 0, true));
        x = Laid.at("d3919191;k0555;k0x9x");
        x.say(1, 1, 0);
        due.is("but one dish for him", -9, x.lies(1, 0));
        due.is("as it is", 90, x.lies(1, 1));
    }

    // "A CHEAP one for that of the least PRICE": the 9 of a lie is not worth a PRICE, be it but one more
    private static void lieToACheapOne() {
        for (int price = 0; price <= 9; price++) {
            RoundAsk x = Laid.at("d29" + price + "94;c000;k091");
            due.is("dish 0 at " + price + ", dish 1 at 4", price <= 4 ? 90 : 10, x.glad(1));
            due.is("it is at the same or at less, or no lie helps", -9, x.lies(1, 0));
            due.is("as it is", price <= 4 ? 90 : 10, x.lies(1, 1));
            x.say(1, 0, 0);
            due.is("a lie helps at the same alone", price == 4 ? 0 : -9, x.lies(1, 0));
            due.is("by it, or as it is", price <= 4 ? 90 : 10, x.lies(1, 1));
        }
    }

    // "UNKNOWN; OUTSIDE." of lies
    private static void liesRefused() {
        RoundAsk x = Laid.at(Laid.THREE);
        for (int bad : new int[] {-1, 3, -9, Integer.MIN_VALUE, Integer.MAX_VALUE}) {
            due.is("guest " + bad, -1, x.lies(bad, 0));
        }
        for (int bad : new int[] {-1, 2, -9, Integer.MIN_VALUE, Integer.MAX_VALUE}) {
            due.is("what " + bad, -2, x.lies(0, bad));
        }
        due.is("without a table", -1, new RoundAsk().lies(0, 0));
        due.is("the last guest", 40, x.lies(2, 1));
    }

    // "how much GLADDER all others together are in an evening without him"
    private static void chair() {
        for (int n = 3; n <= 7; n++) {
            for (int g = 0; g < n; g++) {
                // Dish 0 is there n - 1 times, so one gets NOTHING: 0, for whom the last one asks.
                RoundAsk x = Laid.at("d2" + (n - 1) + "090" + ";k09x".repeat(n));
                due.is(g + " of " + n + " takes it from 0", g == 0 ? 0 : 90, x.chair(g));
                // Dish 0 is there twice: the first two others get it with him or without him.
                x = Laid.at("d22090" + ";k09x".repeat(n));
                due.is(g + " of " + n + ", twice there", g == 1 || g == 2 ? 90 : 0, x.chair(g));
                // There is enough for all; each is glad of him for whom he asks, by KIN 1.
                x = Laid.at("d29090" + ";k15x".repeat(n));
                due.is(g + " of " + n + " in plenty", 0, x.chair(g));
            }
        }
        // KIN of the one who goes is not theirs; KIN of one who stays is, of the next one then.
        due.is("without 0, whose KIN is 9", 0, Laid.at("d29090;k95x;k05x;k05x").chair(0));
        RoundAsk x = Laid.at("d29595;k990;k09x;k00x");
        due.is("without 1, 0 asks for 2, who is not glad of it", -81, x.chair(1));
        x = Laid.at("d29595;k990;k00x;k09x");
        due.is("without 1, 0 asks for 2, who is glad of it", 81, x.chair(1));
        x = Laid.at(ALL);
        x.courses(8);
        int othersWithHim = 54 * 171 - 7 * 90 - 8 * 81;
        due.is("54 for six, who ask 48 times", 48 * 171 - othersWithHim, x.chair(0));
    }

    // "(his SEAT is taken away, STEP as it is, by the SEATS that there are then)"
    private static void chairBySeats() {
        for (int g = 0; g < 5; g++) {
            // Of five, step 2: without g who asks for whom is told by KIN of 0, who is glad of one by his number.
            RoundAsk x = Laid.at("d29090;k10x;k01x;k02x;k03x;k04x");
            x.step(2);
            int target = g == 0 ? 0 : g > 2 ? 2 : 3;
            due.is("without " + g, g == 0 ? 0 : target - 2, x.chair(g));
        }
        // Seats changed: 4, 3, 2, 1, 0; 0 in the last one asks for 3, two on, and round.
        for (int g = 1; g < 5; g++) {
            RoundAsk x = Laid.at("d29090;k10x;k01x;k02x;k03x;k04x");
            x.swap(0, 4);
            x.swap(1, 3);
            x.step(2);
            int target = g == 4 || g == 3 ? 2 : 3;
            due.is("seats changed, without " + g, target - 3, x.chair(g));
        }
    }

    // "who remember as now"
    private static void chairFromNow() {
        RoundAsk x = Laid.at("d29191;p0981;k091;k091");
        due.is("nothing remembered", 0, x.chair(1));
        due.is("nothing remembered", 0, x.chair(2));
        x.dine();
        due.is("without 1, 0 asks the least for 2", -80, x.chair(1));
        due.is("without 2, 0 asks it for 1 as ever", 0, x.chair(2));
        due.is("without 0, 2 asks for 1", 80, x.chair(0));
        x.forget();
        due.is("forgotten", 0, x.chair(1));
    }

    // "of 3 GUESTS at least"; "LOST, too: there are 2 GUESTS"
    private static void chairOfThree() {
        for (int g = 0; g < 2; g++) {
            RoundAsk x = Laid.at("d29090;k01x;k01x");
            due.is("of two", RoundAsk.LOST, x.chair(g));
        }
        for (int g = 0; g < 3; g++) {
            due.is("of three", 0, Laid.at("d29090;k01x;k01x;k01x").chair(g));
        }
    }

    // "STEP is as many as there would be."
    private static void chairByStep() {
        for (int n = 3; n <= 7; n++) {
            RoundAsk x = Laid.at("d29090" + ";k01x".repeat(n));
            for (int step = 1; step < n; step++) {
                x.step(step);
                for (int g = 0; g < n; g++) {
                    due.is(g + " of " + n + ", step " + step, step == n - 1 ? RoundAsk.LOST : 0, x.chair(g));
                }
            }
        }
    }

    // "UNKNOWN (told as LOST)"
    private static void chairRefused() {
        RoundAsk x = Laid.at(Laid.THREE);
        for (int bad : new int[] {-1, 3, 7, Integer.MIN_VALUE, Integer.MAX_VALUE}) {
            due.is("guest " + bad, RoundAsk.LOST, x.chair(bad));
        }
        due.is("the last one", 5, x.chair(2));
        due.is("without a table", RoundAsk.LOST, new RoundAsk().chair(0));
    }

    // "STEP 1 .. GUESTS less 1 by which all are the GLADDEST together"
    private static void law() {
        for (int n = 2; n <= 7; n++) {
            for (int best = 1; best < n; best++) {
                // Dish 0 is there once, and worth something to one alone, for whom 0 asks first by that step.
                StringBuilder text = new StringBuilder("d21090");
                for (int g = 0; g < n; g++) {
                    text.append(g == best ? ";k090" : ";k000");
                }
                RoundAsk x = Laid.at(text.toString());
                due.is("step " + best + " of " + n, best, x.law(0));
                due.is("by it", 90, x.law(1));
                due.is("STEP stays", 1, x.many(2));
            }
        }
        RoundAsk x = Laid.at(ALL);
        x.courses(8);
        due.is("as glad as can be", 54 * 171, x.law(1));
    }

    // "of several the least"
    private static void lawTheLeast() {
        for (int n = 2; n <= 7; n++) {
            RoundAsk x = Laid.at("d29090" + ";k01x".repeat(n));
            x.step(n - 1);
            due.is("all the same to " + n, 1, x.law(0));
            due.is("by each", 10 * n, x.law(1));
            x = Laid.at("d29090" + ";k00x".repeat(n));
            due.is("glad of nothing, " + n, 1, x.law(0));
            due.is("by each", 0, x.law(1));
        }
        RoundAsk x = Laid.at("d21090;k000;k000;k090;k090;k000");
        due.is("2 and 3 as well", 2, x.law(0));
    }

    // "in an evening from now on": from what is remembered
    private static void lawFromNow() {
        RoundAsk x = Laid.at("d29191;p0911;k091;k042");
        due.is("nothing remembered", 1, x.law(0));
        due.is("by it", 10 + 90 + 40, x.law(1));
        x.dine();
        due.is("0 is not content, and asks better for 2", 2, x.law(0));
        due.is("by it", 10 + 90 + 20, x.law(1));
        x.forget();
        due.is("forgotten", 1, x.law(0));
    }

    // "OUTSIDE; STATE: there is no TABLE." of law
    private static void lawRefused() {
        for (int bad : new int[] {-1, 2, -9, Integer.MIN_VALUE, Integer.MAX_VALUE}) {
            due.is("what " + bad, -2, Laid.at(Laid.THREE).law(bad));
            due.is("what " + bad + ", without a table", -2, new RoundAsk().law(bad));
        }
        due.is("step, without a table", -3, new RoundAsk().law(0));
        due.is("glad, without a table", -3, new RoundAsk().law(1));
    }

    // All this is told alone.
    private static void onlyTold() {
        RoundAsk x = Laid.at("d29191;p0911;k091;k042");
        x.dine();
        String was = State.ofTable(x);
        for (int g = 0; g < 3; g++) {
            x.lies(g, 0);
            x.lies(g, 1);
            x.chair(g);
        }
        x.law(0);
        x.law(1);
        due.is("all is as it was", 1, was.equals(State.ofTable(x)) ? 1 : 0);
    }
}

/** Promises 22 to 24: lies, chairs, laws. */
public final class LiesTest {
    private static final Due due = new Due();

    public static void main(String[] args) {
        lies();
        liesOfSeveral();
        chairs();
        laws();
        due.end();
    }

    private static void lies() {
        // 0 is never content, so from the second evening on he asks the least worth for 1.
        RoundAsk x = Laid.at("d29191;p0955;k091");
        due.is("no lie is better", -9, x.lies(1, 0));
        due.is("as it is", 90, x.lies(1, 1));
        x.dine();
        due.is("9 of the bad dish", 1, x.lies(1, 0));
        due.is("how glad by it", 90, x.lies(1, 1));
        due.is("how glad as it is", 10, x.glad(1));
        due.is("he says as before", 9, x.worth(1, 0, true));
        due.is("0 gets the same", -9, x.lies(0, 0));
        due.is("0 gets the same", 50, x.lies(0, 1));
        due.is("no guest 2", -1, x.lies(2, 7));
        due.is("no guest -1", -1, x.lies(-1, 0));
        due.is("what 2", -2, x.lies(0, 2));
        due.is("what -1", -2, x.lies(0, -1));
        // More than as all say now, not more than what is true.
        x = Laid.at("d29191;k091;k091");
        x.say(1, 0, 0);
        x.say(1, 1, 9);
        due.is("better than what he says now", 0, x.lies(1, 0));
        due.is("90 by it", 90, x.lies(1, 1));
        due.is("10 as it is", 10, x.glad(1));
    }

    private static void liesOfSeveral() {
        // 1 says 9 of dish 0, which is truly worth 1; dishes 1 and 2 are both worth 9.
        RoundAsk x = Laid.at("d3919191;k0555;k0199");
        x.say(1, 0, 9);
        x.say(1, 1, 0);
        x.say(1, 2, 0);
        due.is("of several the least", 1, x.lies(1, 0));
        due.is("90", 90, x.lies(1, 1));
        // Dishes that he may not have stay so.
        x = Laid.at("d3919191;k0555;k0x19");
        x.say(1, 1, 9);
        x.say(1, 2, 0);
        due.is("not one that he may not have", 2, x.lies(1, 0));
        due.is("90", 90, x.lies(1, 1));
        // All others he says 0 of: in the second course too it is the better of what is left.
        x = Laid.at("d3119991;k0xx5;k0962");
        x.courses(2);
        due.is("he is given 9, then 6", 150, x.glad(1));
        due.is("nothing is better", -9, x.lies(1, 0));
    }

    private static void chairs() {
        RoundAsk x = Laid.at(Laid.THREE);
        due.is("without 0: 114, with 114", 0, x.chair(0));
        due.is("without 1: 186, with 144", 42, x.chair(1));
        due.is("without 2: 183, with 178", 5, x.chair(2));
        due.is("guests stay", 3, x.many(0));
        due.is("guest 3", RoundAsk.LOST, x.chair(3));
        due.is("guest -1", RoundAsk.LOST, x.chair(-1));
        x.step(2);
        due.is("step is as many as there would be", RoundAsk.LOST, x.chair(0));
        // As they remember now: 2 is not content, and asks the least for 0.
        x = Laid.at("d29191;k091;k091;p0981");
        due.is("without 1, nothing remembered", 0, x.chair(1));
        x = Laid.at("d29191;p0981;k091;k091");
        due.is("without 2, nothing remembered", 0, x.chair(2));
        x.dine();
        due.is("without 2, 0 not content: 10 and 80, with 0: 80, with 1: 10", 0, x.chair(2));
        due.is("without 0: 90 and 90, with 10 and 90", 80, x.chair(0));
        due.is("of two", RoundAsk.LOST, Laid.at("d29191;k091;k091").chair(0));
        // Step 2 of four, then of three: 0 asks for 3, whose seat is 2 now.
        x = Laid.at("d21191;k091;k051;k071;k031");
        x.step(2);
        due.is("with: 0 asks dish 0 for 2", 0, x.gets(2, 0));
        due.is("without 1: 30 and 10 and 10, with 10 and 70 and 10", -40, x.chair(1));
        due.is("without 2: 30 and 10 and 10, with 10 and 10 and 10", 20, x.chair(2));
    }

    private static void laws() {
        RoundAsk x = Laid.at(Laid.THREE);
        due.is("the step", 1, x.law(0));
        due.is("how glad", 218, x.law(1));
        x.swap(1, 2);
        due.is("the step, seats changed", 2, x.law(0));
        due.is("how glad, seats changed", 218, x.law(1));
        due.is("step is as it was", 1, x.many(2));
        due.is("law(2)", -2, x.law(2));
        due.is("law(-1)", -2, x.law(-1));
        x = Laid.at("d29191;k055;k055;k055;k055");
        due.is("of several the least", 1, x.law(0));
        due.is("of several", 200, x.law(1));
        x.step(3);
        due.is("of several the least, whatever it is now", 1, x.law(0));
        x = Laid.at("d21191;k091;k051;k071;k031");
        due.is("dish 0 goes to whom 0 asks for", 2, x.law(0));
        due.is("70 and three times 10", 100, x.law(1));
        // As they remember now: 0 is never content, who gets the least of him is as glad as can be.
        x = Laid.at("d29191;p0911;k091;k042");
        due.is("nothing remembered", 1, x.law(0));
        x.dine();
        due.is("0 not content asks for 2", 2, x.law(0));
        due.is("10 and 20 and 90", 120, x.law(1));
    }
}

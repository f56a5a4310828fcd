/** Promises 18 to 21: evenings without end. */
public final class EverTest {
    private static final Due due = new Due();
    // Dish 0 is there once. Content, 0 asks it for 1, and is left dish 1; not content, the other way.
    private static final String TURNS = "d21191;p1591;k092";
    // Two who pay back, with enough of all.
    private static final String FEUD = "d29195;p0591;p0591";

    public static void main(String[] args) {
        ring();
        means();
        leaves();
        spites();
        refusals();
        due.end();
    }

    private static void ring() {
        RoundAsk x = Laid.at(TURNS);
        due.is("tail", 1, x.ever(0));
        due.is("ring", 2, x.ever(1));
        x.dine();
        due.is("tail, in the ring", 0, x.ever(0));
        due.is("ring, in the ring", 2, x.ever(1));
        x.dine();
        due.is("tail, in the ring", 0, x.ever(0));
        due.is("evenings are told only", 2, x.many(4));
        x.forget();
        due.is("tail, forgotten", 1, x.ever(0));
        x.courses(2);
        // Each evening ends with dish 1 for both, though it does not begin alike.
        due.is("tail, two courses", 1, x.ever(0));
        due.is("ring, two courses", 1, x.ever(1));
        x = Laid.at(FEUD);
        due.is("peace: tail", 1, x.ever(0));
        due.is("peace: ring", 1, x.ever(1));
    }

    private static void means() {
        RoundAsk x = Laid.at(TURNS);
        due.is("0: 19 and 92 by two", 111, x.mean(0, 0));
        due.is("0: by two", 2, x.mean(0, 1));
        due.is("1: 90 and 20 by two", 55, x.mean(1, 0));
        due.is("1: in least terms", 1, x.mean(1, 1));
        x.dine();
        due.is("the same in the ring", 111, x.mean(0, 0));
        due.is("evenings", 1, x.many(4));
        // The tail does not count: by then 0 is not content any more.
        x = Laid.at("d29195;p0991;k081");
        due.is("the first evening", 80, x.glad(1));
        due.is("content", 80, x.mean(1, 0));
        x = Laid.at("d29195;p0981;k081");
        due.is("the first evening", 80, x.glad(1));
        due.is("not content, for ever", 10, x.mean(1, 0));
        due.is("by 1", 1, x.mean(1, 1));
    }

    private static void leaves() {
        due.is("nobody", 0, Laid.at(TURNS).leaves());
        // 0 asks the cheap dish for 1; KIND, he would be gladder of what 1 gets.
        due.is("0 would be KIND", 1, Laid.at("d29591;c991;k091").leaves());
        due.is("1 would be KIND", 2, Laid.at("d29591;k091;c991").leaves());
        due.is("of KIN 0 nobody", 0, Laid.at("d29591;c091;c091").leaves());
        due.is("both would be KIND", 3, Laid.at("d29591;c991;c991").leaves());
        // 1 says what is not true: of a KIND one he gets dish 1, of a CHEAP one dish 0.
        RoundAsk x = Laid.at("d29195;k991;k091");
        x.say(1, 1, 9);
        x.say(1, 0, 0);
        due.is("0 would be CHEAP", 1, x.leaves());
        // PAYER with CONTENT 0 is as KIND.
        due.is("1 PAYER would not be KIND", 0, Laid.at("d29591;k091;p9091").leaves());
        // 1 pays back from the second evening on, and has KIN 9: he would rather be KIND.
        due.is("1 PAYER would be KIND", 2, Laid.at("d29591;k081;p9981").leaves());
        due.is("nothing changes", 2, Laid.at("d29591;k081;p9981").ofGuest(1, 0));
    }

    private static void spites() {
        RoundAsk x = Laid.at(FEUD);
        due.is("a spite that does not fade", -9, x.spite(0, 0));
        due.is("it is back at once", 0, x.spite(0, 1));
        due.is("of 1: it does not fade", -9, x.spite(1, 0));
        due.is("of 1: it is back in the next evening", 1, x.spite(1, 1));
        due.is("it is told only", -8, x.ofGuest(0, 4));
        x.courses(3);
        due.is("of 1, three courses: in the next course", 1, x.spite(1, 1));
        x.courses(1);
        x.dine();
        due.is("from peace: does not fade", -9, x.spite(0, 0));
        due.is("from peace: back at once", 0, x.spite(0, 1));
        // Of KIND ones: in one evening 1 remembers less, in the next as ever.
        x = Laid.at("d29195;k091;k091");
        due.is("KIND: fades", 2, x.spite(0, 0));
        due.is("KIND: not back", -9, x.spite(0, 1));
        x.courses(2);
        due.is("KIND, two courses: fades as the evening ends", 1, x.spite(0, 0));
        // What a spite can't change has faded after one evening.
        x = Laid.at("d29195;k091;k0x1");
        due.is("no change", 1, x.spite(0, 0));
        due.is("no change", -9, x.spite(0, 1));
        // A CHEAP one: in spite he asks for the least worth.
        x = Laid.at("d29195;c091;k091");
        due.is("CHEAP: fades", 2, x.spite(0, 0));
        // Worth more than without is not back: 0 takes dish 1 for 1, and gets dish 0 himself.
        x = Laid.at("d21191;k091;k091");
        due.is("he gets more", -9, x.spite(0, 1));
        due.is("he gets more, it fades", 2, x.spite(0, 0));
        // 0 says that dish 1 is the better one: a spite does him good, so 1 gets dish 0 once more,
        // and dish 1 an evening later than he would without.
        x = Laid.at(FEUD);
        x.say(0, 0, 1);
        x.say(0, 1, 9);
        due.is("back by what is truly worth", 2, x.spite(1, 1));
    }

    private static void refusals() {
        RoundAsk x = Laid.at(TURNS);
        due.is("ever(2)", -2, x.ever(2));
        due.is("ever(-1)", -2, x.ever(-1));
        due.is("mean of 2", RoundAsk.LOST, x.mean(2, 0));
        due.is("mean of -1", RoundAsk.LOST, x.mean(-1, 0));
        due.is("mean, which 2", RoundAsk.LOST, x.mean(0, 2));
        due.is("mean, which -1", RoundAsk.LOST, x.mean(0, -1));
        due.is("spite of 2", -1, x.spite(2, 5));
        due.is("spite of -1", -1, x.spite(-1, 0));
        due.is("spite, what 2", -2, x.spite(0, 2));
        due.is("spite, what -1", -2, x.spite(0, -1));
    }
}

/** Promises 10 to 14: evenings. */
public final class EveningsTest {
    private static final Due due = new Due();

    public static void main(String[] args) {
        three();
        manners();
        payers();
        memory();
        courses();
        paying();
        refusals();
        due.end();
    }

    private static void three() {
        // 0 asks dish 1 for 1; 1 asks dish 0 for 2, whom that leaves not content; 2 asks dish 0 for 0.
        RoundAsk x = Laid.at(Laid.THREE);
        due.is("gets(0, 0)", 0, x.gets(0, 0));
        due.is("gets(1, 0)", 1, x.gets(1, 0));
        due.is("gets(2, 0)", 0, x.gets(2, 0));
        due.is("glad(0): 90 and 2 times 7", 104, x.glad(0));
        due.is("glad(1): 70 and 1 times 4", 74, x.glad(1));
        due.is("glad(2): 40", 40, x.glad(2));
        due.is("nobody remembers what would be", -8, x.ofGuest(0, 4));
        due.is("dine", 218, x.dine());
        due.is("last of 1", 1, x.ofGuest(1, 4));
        due.is("forget", 3, x.forget());
        due.is("last of 1 forgotten", -8, x.ofGuest(1, 4));
        due.is("forget again", 0, x.forget());
        due.is("evenings", 1, x.many(4));
    }

    /** Of six dishes to the same guest, in the manner of the one who asks. */
    private static int asked(String letter, String worth, String prices) {
        StringBuilder text = new StringBuilder("d6");
        for (int d = 0; d < 6; d++) {
            text.append('1').append(prices.charAt(d));
        }
        text.append(";").append(letter).append("xxxxx0;k0").append(worth);
        return Laid.at(text.toString()).gets(1, 0);
    }

    private static void manners() {
        due.is("KIND: the greatest worth", 3, asked("k0", "135924", "000900"));
        due.is("KIND: then the least price", 2, asked("k0", "599599", "132345"));
        due.is("KIND: then the least number", 1, asked("k0", "599999", "033333"));
        due.is("KIND: not what he may not have", 4, asked("k0", "xxx12x", "000990"));
        due.is("CHEAP: the least price", 5, asked("c0", "999991", "765432"));
        due.is("CHEAP: then the greatest worth", 2, asked("c0", "809879", "232223"));
        due.is("CHEAP: of two at the same price", 4, asked("c0", "123450", "555555"));
        due.is("CHEAP: then the least number", 1, asked("c0", "299999", "933333"));
        due.is("CHEAP: not what he may not have", 4, asked("c0", "xxx19x", "000990"));
        due.is("PAYER: as KIND", 3, asked("p00", "135924", "000900"));
        due.is("PAYER, who remembers nothing: as KIND", 3, asked("p09", "135924", "000900"));
    }

    private static void payers() {
        // The payer is in seat 1: what he was given a moment before is what he asks by.
        due.is("not content: the least worth", 4, afterBad("p05", "995619", "111198"));
        due.is("not content: then the least price", 3, afterBad("p05", "945469", "191319"));
        due.is("not content: then the least number", 1, afterBad("p05", "933936", "122222"));
        due.is("content: the greatest worth", 0, afterBad("p04", "985617", "111191"));
    }

    /** What guest 0 gets of a payer who has just got a dish that is worth 4 to him. */
    private static int afterBad(String letter, String worth, String prices) {
        StringBuilder text = new StringBuilder("d6");
        for (int d = 0; d < 6; d++) {
            text.append('9').append(prices.charAt(d));
        }
        text.append(";k0").append(worth).append(";").append(letter).append("xxxxx4");
        return Laid.at(text.toString()).gets(0, 0);
    }

    private static void memory() {
        // Nothing was worth 0: less than CONTENT 1, not less than CONTENT 0.
        for (int content = 0; content <= 1; content++) {
            RoundAsk x = Laid.at("d21192;p0" + content + "9x;k091");
            due.is("0 asks for 1 first", 0, x.gets(1, 0));
            due.is("for 0 nothing is left", -9, x.gets(0, 0));
            x.dine();
            due.is("0 remembers nothing that he got", -9, x.ofGuest(0, 4));
            due.is("what 0 asks for then", content == 0 ? 0 : 1, x.gets(1, 0));
            due.is("what 0 gets then", content == 0 ? -9 : 0, x.gets(0, 0));
            due.is("forget", 2, x.forget());
            due.is("what 0 asks for who remembers nothing", 0, x.gets(1, 0));
        }
        // By what it is truly worth, not by what he says.
        RoundAsk x = Laid.at("d29191;k091;p0591");
        x.say(1, 0, 0);
        x.say(1, 1, 9);
        due.is("1 gets what is truly worth 1", 1, x.gets(1, 0));
        due.is("and is not content", 1, x.gets(0, 0));
        x = Laid.at("d29191;k091;p0591");
        x.say(1, 0, 1);
        x.say(1, 1, 0);
        due.is("1 gets what is truly worth 9", 0, x.gets(1, 0));
        due.is("and is content", 0, x.gets(0, 0));
    }

    private static void courses() {
        RoundAsk x = Laid.at(Laid.THREE);
        x.courses(2);
        due.is("gets(0, 0)", 0, x.gets(0, 0));
        due.is("gets(1, 0)", 1, x.gets(1, 0));
        for (int g = 0; g < 3; g++) {
            due.is("nothing is left of course 1", -9, x.gets(g, 1));
        }
        due.is("dine", 218, x.dine());
        due.is("last", -9, x.ofGuest(0, 4));
        due.is("they remember nothing that they got", 3, x.forget());
        // Twice two courses of enough for all: all dishes are there again as an evening begins.
        x = Laid.at("d24124;k191;k091");
        x.courses(2);
        due.is("two courses: 4 times 90, twice 9", 378, x.dine());
        due.is("and again", 378, x.dine());
        due.is("evenings", 2, x.many(4));
        x.courses(3);
        due.is("a third one, less good", 1, x.gets(0, 2));
        due.is("three courses: and twice 10, and 1", 399, x.dine());
    }

    private static void paying() {
        RoundAsk x = Laid.at(Laid.THREE);
        due.is("0 pays", 3, x.pays(0, false, 0));
        due.is("0 pays by", 1, x.pays(0, false, 1));
        due.is("1 pays", 1, x.pays(1, false, 0));
        due.is("2 pays", 1, x.pays(2, false, 0));
        for (int g = 0; g < 3; g++) {
            due.is("alike", 5, x.pays(g, true, 0));
            due.is("alike by", 3, x.pays(g, true, 1));
        }
        x.step(2);
        due.is("who gets nothing to ask for pays 0", 0, x.pays(2, false, 0));
        due.is("who gets nothing to ask for pays 0 by 1", 1, x.pays(2, false, 1));
        due.is("alike: 4 by 3", 4, x.pays(2, true, 0));
        // Six at 1, of four guests: 6 by 4 is 3 by 2.
        x = Laid.at("d26160;k010;k010;k010;k010");
        x.courses(2);
        due.is("alike in least terms", 3, x.pays(0, true, 0));
        due.is("alike in least terms, by", 2, x.pays(0, true, 1));
        x = Laid.at("d29090;k010;k010;k010");
        due.is("nothing in all", 0, x.pays(0, true, 0));
        due.is("nothing in all, by 1", 1, x.pays(0, true, 1));
        x = Laid.at("d29999;k010;k010;k010");
        x.courses(6);
        due.is("six courses at 9", 54, x.pays(1, false, 0));
        due.is("alike: the same", 54, x.pays(1, true, 0));
        due.is("alike: the same, by 1", 1, x.pays(1, true, 1));
    }

    private static void refusals() {
        RoundAsk x = Laid.at(Laid.THREE);
        due.is("gets of guest 3", -1, x.gets(3, 0));
        due.is("gets of guest -1", -1, x.gets(-1, 0));
        due.is("gets of course 1", -1, x.gets(0, 1));
        due.is("gets of course -1", -1, x.gets(0, -1));
        due.is("glad of guest 3", -1, x.glad(3));
        due.is("glad of guest -1", -1, x.glad(-1));
        due.is("pays of guest 3", RoundAsk.LOST, x.pays(3, true, 0));
        due.is("pays of guest -1", RoundAsk.LOST, x.pays(-1, false, 0));
        due.is("pays, which 2", RoundAsk.LOST, x.pays(0, true, 2));
        due.is("pays, which -1", RoundAsk.LOST, x.pays(0, false, -1));
    }
}

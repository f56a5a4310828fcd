/** Promise 1: a new object has no table, and its sheets have nothing; promise 35: how many. */
public final class NewTest {
    private static final Due due = new Due();

    public static void main(String[] args) {
        counts();
        noGuests();
        noTable();
        nothingInSheets();
        due.end();
    }

    private static void counts() {
        RoundAsk x = new RoundAsk();
        for (int what = 0; what <= 4; what++) {
            due.is("new many(" + what + ")", 0, x.many(what));
        }
        due.is("many(-1)", -2, x.many(-1));
        due.is("many(5)", -2, x.many(5));
        due.is("many(max)", -2, x.many(Integer.MAX_VALUE));
        Laid.table(x, Laid.THREE);
        due.is("many guests", 3, x.many(0));
        due.is("many dishes", 2, x.many(1));
        due.is("many step", 1, x.many(2));
        due.is("many courses", 1, x.many(3));
        due.is("many evenings", 0, x.many(4));
        x.step(2);
        x.courses(5);
        x.dine();
        x.dine();
        due.is("many step after step(2)", 2, x.many(2));
        due.is("many courses after courses(5)", 5, x.many(3));
        due.is("many evenings after two", 2, x.many(4));
        x.gets(0, 0);
        x.ever(0);
        due.is("many evenings, some only told", 2, x.many(4));
    }

    private static void noGuests() {
        RoundAsk x = new RoundAsk();
        due.is("ofDish", -1, x.ofDish(0, 0));
        due.is("ofDish, what outside", -1, x.ofDish(0, 9));
        due.is("ofGuest", -1, x.ofGuest(0, 0));
        due.is("worth", -5, x.worth(0, 0, false));
        due.is("say", -1, x.say(0, 0, 10));
        due.is("swap", -1, x.swap(0, 0));
        due.is("step", -2, x.step(1));
        due.is("gets", -1, x.gets(0, 0));
        due.is("glad", -1, x.glad(0));
        due.is("pays", RoundAsk.LOST, x.pays(0, false, 0));
        due.is("mean", RoundAsk.LOST, x.mean(0, 0));
        due.is("spite", -1, x.spite(0, 0));
        due.is("lies", -1, x.lies(0, 0));
        due.is("chair", RoundAsk.LOST, x.chair(0));
        due.is("tell", -1, x.tell(0));
        due.is("greet", -1, x.greet(0));
        due.is("as", -1, x.as(0, 0));
        due.is("trace", 0, x.trace());
    }

    private static void noTable() {
        RoundAsk x = new RoundAsk();
        due.is("courses", -3, x.courses(8));
        due.is("courses(0)", -2, x.courses(0));
        due.is("dine", -3, x.dine());
        due.is("forget", 0, x.forget());
        due.is("best(-1)", -3, x.best(-1));
        due.is("best(0)", -1, x.best(0));
        due.is("seats(1, -1)", -3, x.seats(1, -1));
        due.is("seats(1, 0)", -1, x.seats(1, 0));
        due.is("seats(-1, 0)", -2, x.seats(-1, 0));
        due.is("ever(1)", -3, x.ever(1));
        due.is("ever(2)", -2, x.ever(2));
        due.is("leaves", -3, x.leaves());
        due.is("law(1)", -3, x.law(1));
        due.is("law(-1)", -2, x.law(-1));
        due.is("evenings", 0, x.many(4));
    }

    private static void nothingInSheets() {
        RoundAsk x = new RoundAsk();
        due.is("fault", 0, x.fault());
        for (int k = 0; k < 4; k++) {
            due.is("lose", 0, x.lose(k));
            due.is("put", -11, x.put(k, 0, 0));
            due.is("fault", 1, x.fault());
        }
        due.is("judge", -11, x.judge(0, 0, 0, 1));
        due.is("table", -11, x.table(0, 0, 0, 1));
    }
}

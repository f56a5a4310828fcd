/**
 * "REFUSALS ..; they change nothing (but fault(), of a call that names FAULTS)"; a FAULT "changes nothing;
 * fault() tells it": each refused call and each FAULT, without a table and with one on which much has been
 * changed; and so with calls that tell alone.
 */
public final class RefusedTest {
    private static final Due due = new Due();
    private static final int NAMES_NONE = -1;
    private static final int SIZE = 4;
    private static final long LOST = RoundAsk.LOST;
    private static final int[] FAR = {Integer.MIN_VALUE, -1, 7, Integer.MAX_VALUE};

    private interface Call {
        long on(RoundAsk x);
    }

    public static void main(String[] args) {
        withoutTable();
        guestsAndDishes();
        numbers();
        sheets();
        faults();
        tellingAlone();
        due.end();
    }

    /** Sheets of all sorts, one with nothing; SIZE was the latest fault. */
    private static RoundAsk bare() {
        RoundAsk x = new RoundAsk();
        Laid.row(x, 0, 0, 100, -100, 3);
        Laid.row(x, 1, 1, 300, -9, -300, 7);
        x.sheet(2, 2, 0);
        x.sheet(0, 0, -1);
        return x;
    }

    /** A table on which all that can be has been changed. */
    private static RoundAsk laid() {
        RoundAsk x = Laid.at(Laid.THREE);
        x.say(0, 0, 3);
        x.say(2, 1, 0);
        x.swap(0, 2);
        x.step(2);
        x.courses(2);
        x.dine();
        x.tell(2);
        Laid.row(x, 0, 0, 1, 0, 0, 0, -9, -9, 0);
        Laid.row(x, 1, 1, 300, -9, -300, 7);
        x.sheet(2, 2, 0);
        x.sheet(0, 0, -1);
        return x;
    }

    private static void changesNothing(RoundAsk x, String call, long want, int fault, Call asked) {
        String was = State.of(laidAgain(x));
        due.is("the latest fault ahead of " + call, SIZE, x.fault());
        due.is(call, want, asked.on(x));
        due.is("fault of " + call, fault == NAMES_NONE ? SIZE : fault, x.fault());
        String now = State.of(x);
        if (!was.equals(now)) {
            System.out.println("was " + was + "\nis  " + now);
        }
        due.is(call + " changes nothing", 1, was.equals(now) ? 1 : 0);
    }

    /** One in the same state, so that telling it can't mend what the call breaks. */
    private static RoundAsk laidAgain(RoundAsk x) {
        return x.many(0) == 0 ? bare() : laid();
    }

    private static void onBoth(String call, long want, int fault, Call asked) {
        changesNothing(bare(), call + ", no table", want, fault, asked);
        changesNothing(laid(), call, want, fault, asked);
    }

    private static void withoutTable() {
        changesNothing(bare(), "courses", -3, NAMES_NONE, x -> x.courses(2));
        changesNothing(bare(), "dine", -3, NAMES_NONE, x -> x.dine());
        changesNothing(bare(), "forget", 0, NAMES_NONE, x -> x.forget());
        changesNothing(bare(), "judge", -3, 0, x -> x.judge(0, 0, 0, 1));
        changesNothing(bare(), "judge of more", -3, 0, x -> x.judge(1, 1, 0, 4));
        changesNothing(bare(), "best", -3, NAMES_NONE, x -> x.best(-1));
        changesNothing(bare(), "seats", -3, NAMES_NONE, x -> x.seats(1, -1));
        changesNothing(bare(), "ever", -3, NAMES_NONE, x -> x.ever(1));
        changesNothing(bare(), "leaves", -3, NAMES_NONE, x -> x.leaves());
        changesNothing(bare(), "law", -3, NAMES_NONE, x -> x.law(0));
        changesNothing(bare(), "step", -2, NAMES_NONE, x -> x.step(1));
        changesNothing(bare(), "ofDish", -1, NAMES_NONE, x -> x.ofDish(0, 0));
        changesNothing(bare(), "say", -1, NAMES_NONE, x -> x.say(0, 0, 0));
        changesNothing(bare(), "swap", -1, NAMES_NONE, x -> x.swap(0, 0));
        changesNothing(bare(), "gets", -1, NAMES_NONE, x -> x.gets(0, 0));
        changesNothing(bare(), "a text", -101, 0, x -> x.table(0, 0, 0, 3));
        changesNothing(bare(), "trace", 0, NAMES_NONE, x -> x.trace());
        changesNothing(bare(), "as", -1, 0, x -> x.as(0, 0));
    }

    private static void guestsAndDishes() {
        for (int bad : FAR) {
            onBoth("ofGuest " + bad, -1, NAMES_NONE, x -> x.ofGuest(bad, 0));
            onBoth("ofDish " + bad, -1, NAMES_NONE, x -> x.ofDish(bad, 0));
            onBoth("worth " + bad, -5, NAMES_NONE, x -> x.worth(bad, 0, true));
            onBoth("worth of " + bad, -5, NAMES_NONE, x -> x.worth(0, bad, false));
            onBoth("say " + bad, -1, NAMES_NONE, x -> x.say(bad, 0, 1));
            onBoth("say of " + bad, -1, NAMES_NONE, x -> x.say(0, bad, 1));
            onBoth("swap " + bad, -1, NAMES_NONE, x -> x.swap(bad, 0));
            onBoth("swap with " + bad, -1, NAMES_NONE, x -> x.swap(0, bad));
            onBoth("gets " + bad, -1, NAMES_NONE, x -> x.gets(bad, 0));
            onBoth("gets in " + bad, -1, NAMES_NONE, x -> x.gets(0, bad));
            onBoth("glad " + bad, -1, NAMES_NONE, x -> x.glad(bad));
            onBoth("pays " + bad, LOST, NAMES_NONE, x -> x.pays(bad, true, 0));
            onBoth("mean " + bad, LOST, NAMES_NONE, x -> x.mean(bad, 0));
            onBoth("spite " + bad, -1, NAMES_NONE, x -> x.spite(bad, 0));
            onBoth("lies " + bad, -1, NAMES_NONE, x -> x.lies(bad, 0));
            onBoth("chair " + bad, LOST, NAMES_NONE, x -> x.chair(bad));
            onBoth("tell " + bad, -1, NAMES_NONE, x -> x.tell(bad));
            onBoth("greet " + bad, -1, NAMES_NONE, x -> x.greet(bad));
            onBoth("as " + bad, -1, 0, x -> x.as(bad, 0));
        }
        onBoth("best", -1, NAMES_NONE, x -> x.best(3));
        onBoth("best", -1, NAMES_NONE, x -> x.best(-2));
        onBoth("seats", -1, NAMES_NONE, x -> x.seats(0, 3));
        onBoth("seats", -1, NAMES_NONE, x -> x.seats(1, -2));
        changesNothing(laid(), "chair, step as many as there would be", LOST, NAMES_NONE, x -> x.chair(0));
        changesNothing(laid(), "gets of the third course", -1, NAMES_NONE, x -> x.gets(0, 2));
    }

    private static void numbers() {
        for (int bad : FAR) {
            changesNothing(laid(), "ofDish, what " + bad, -2, NAMES_NONE, x -> x.ofDish(0, bad));
            changesNothing(laid(), "ofGuest, what " + bad, -2, NAMES_NONE, x -> x.ofGuest(0, bad));
            changesNothing(laid(), "pays, which " + bad, LOST, NAMES_NONE, x -> x.pays(0, true, bad));
            changesNothing(laid(), "mean, which " + bad, LOST, NAMES_NONE, x -> x.mean(0, bad));
            changesNothing(laid(), "spite, what " + bad, -2, NAMES_NONE, x -> x.spite(0, bad));
            changesNothing(laid(), "lies, what " + bad, -2, NAMES_NONE, x -> x.lies(0, bad));
            changesNothing(laid(), "as, kind " + bad, -2, 0, x -> x.as(0, bad));
            onBoth("step " + bad, -2, NAMES_NONE, x -> x.step(bad));
            onBoth("seats, aim " + bad, -2, NAMES_NONE, x -> x.seats(bad, 0));
            onBoth("ever, what " + bad, -2, NAMES_NONE, x -> x.ever(bad));
            onBoth("law, what " + bad, -2, NAMES_NONE, x -> x.law(bad));
            onBoth("many, what " + bad, -2, NAMES_NONE, x -> x.many(bad));
        }
        for (int bad : new int[] {-1, 10, Integer.MIN_VALUE, Integer.MAX_VALUE}) {
            changesNothing(laid(), "say " + bad, -2, NAMES_NONE, x -> x.say(0, 0, bad));
        }
        for (int bad : new int[] {0, 3}) {
            changesNothing(laid(), "step " + bad, -2, NAMES_NONE, x -> x.step(bad));
        }
        for (int bad : new int[] {-1, 0, 9, Integer.MIN_VALUE, Integer.MAX_VALUE}) {
            onBoth("courses " + bad, -2, NAMES_NONE, x -> x.courses(bad));
        }
        changesNothing(laid(), "say, he may not have it", -3, NAMES_NONE, x -> x.say(1, 0, 5));
    }

    private static void sheets() {
        for (int bad : new int[] {-1, 4, Integer.MIN_VALUE, Integer.MAX_VALUE}) {
            onBoth("table " + bad, -1, 0, x -> x.table(bad, 0, 0, 1));
            onBoth("judge " + bad, -1, 0, x -> x.judge(bad, 0, 0, 1));
            onBoth("sheet " + bad, -1, 0, x -> x.sheet(bad, 0, 1));
            onBoth("lose " + bad, -1, NAMES_NONE, x -> x.lose(bad));
            onBoth("put " + bad, -1, 0, x -> x.put(bad, 0, 1));
            onBoth("cell " + bad, LOST, 0, x -> x.cell(bad, 0, 1));
            onBoth("copy from " + bad, -1, 0, x -> x.copy(bad, 0, 0, 0, 1));
            onBoth("copy to " + bad, -1, 0, x -> x.copy(0, 0, bad, 0, 1));
        }
        for (int bad : new int[] {-1, 3, Integer.MIN_VALUE, Integer.MAX_VALUE}) {
            onBoth("table, sort " + bad, -2, 0, x -> x.table(0, bad, 0, 1));
            onBoth("judge, sort " + bad, -2, 0, x -> x.judge(0, bad, 0, 1));
            onBoth("sheet, sort " + bad, -2, 0, x -> x.sheet(0, bad, 1));
            onBoth("cell, sort " + bad, LOST, 0, x -> x.cell(0, 0, bad));
        }
        onBoth("sheet of 101", -2, 0, x -> x.sheet(0, 0, 101));
        onBoth("sheet of max", -2, 0, x -> x.sheet(3, 0, Integer.MAX_VALUE));
        onBoth("lose what has nothing", 0, NAMES_NONE, x -> x.lose(3));
        changesNothing(laid(), "judge of more than can be", -2, 0, x -> x.judge(0, 0, 0, 7));
        changesNothing(laid(), "judge of no dish", -1, 0, x -> x.judge(1, 1, 0, 1));
        changesNothing(laid(), "judge of no dish, the last", -1, 0, x -> x.judge(1, 1, 1, 3));
    }

    private static void faults() {
        for (int sort = 0; sort < 3; sort++) {
            int as = sort;
            onBoth("table of nothing", -11, 1, x -> x.table(3, as, 0, 1));
            onBoth("judge of nothing", -11, 1, x -> x.judge(3, as, 0, 1));
            onBoth("cell of nothing", LOST, 1, x -> x.cell(3, 0, as));
            if (sort != 0) {
                onBoth("table as another", -12, 2, x -> x.table(0, as, 0, 1));
                onBoth("judge as another", -12, 2, x -> x.judge(0, as, 0, 1));
                onBoth("cell as another", LOST, 2, x -> x.cell(0, 0, as));
            }
        }
        onBoth("put in nothing", -11, 1, x -> x.put(3, 0, 1));
        onBoth("copy of nothing", -11, 1, x -> x.copy(3, 0, 0, 0, 1));
        onBoth("copy to nothing", -11, 1, x -> x.copy(0, 0, 3, 0, 1));
        onBoth("copy of unlike sorts", -12, 2, x -> x.copy(0, 0, 1, 0, 1));
        onBoth("table of less than none", -14, 4, x -> x.table(0, 0, 0, -1));
        onBoth("judge of less than none", -14, 4, x -> x.judge(0, 0, 0, -1));
        onBoth("sheet of less than none", -14, 4, x -> x.sheet(1, 0, -1));
        for (int bad : new int[] {-1, 8, 100, Integer.MIN_VALUE, Integer.MAX_VALUE}) {
            onBoth("table from " + bad, -13, 3, x -> x.table(0, 0, bad, 0));
            onBoth("judge from " + bad, -13, 3, x -> x.judge(0, 0, bad, 0));
            onBoth("put " + bad, -13, 3, x -> x.put(0, bad, 5));
            onBoth("cell " + bad, LOST, 3, x -> x.cell(0, bad, 0));
            onBoth("copy from " + bad, -13, 3, x -> x.copy(0, bad, 0, 0, 0));
            onBoth("copy to " + bad, -13, 3, x -> x.copy(0, 0, 0, bad, 0));
            onBoth("copy of " + bad, -13, 3, x -> x.copy(0, 0, 0, 0, bad));
        }
        onBoth("a copy that would go beyond", -13, 3, x -> x.copy(1, 0, 1, 1, 4));
        changesNothing(laid(), "as", -12, 2, x -> x.as(0, 1));
        changesNothing(laid(), "as", -12, 2, x -> x.as(0, 2));
        changesNothing(laid(), "as", -12, 2, x -> x.as(1, 2));
    }

    private static void tells(String call, int fault, Call asked) {
        long want = asked.on(laid());
        changesNothing(laid(), call, want, fault, asked);
    }

    /** Calls that are not refused, but tell alone. */
    private static void tellingAlone() {
        for (int k = 0; k < 2; k++) {
            int half = k;
            tells("ofDish", NAMES_NONE, x -> x.ofDish(1, half));
            tells("ofGuest", NAMES_NONE, x -> x.ofGuest(1, 3 + half));
            tells("worth", NAMES_NONE, x -> x.worth(0, 0, half == 0));
            tells("gets", NAMES_NONE, x -> x.gets(2, half));
            tells("pays", NAMES_NONE, x -> x.pays(1, half == 0, 0));
            tells("best", NAMES_NONE, x -> x.best(half));
            tells("seats", NAMES_NONE, x -> x.seats(half, 1));
            tells("ever", NAMES_NONE, x -> x.ever(half));
            tells("mean", NAMES_NONE, x -> x.mean(2, half));
            tells("spite", NAMES_NONE, x -> x.spite(2, half));
            tells("lies", NAMES_NONE, x -> x.lies(2, half));
            tells("law", NAMES_NONE, x -> x.law(half));
            tells("many", NAMES_NONE, x -> x.many(half));
            tells("as", 0, x -> x.as(2, half));
            tells("cell", 0, x -> x.cell(0, half, 0));
        }
        tells("glad", NAMES_NONE, x -> x.glad(1));
        tells("judge", 0, x -> x.judge(0, 0, 0, 6));
        tells("leaves", NAMES_NONE, x -> x.leaves());
        tells("trace", NAMES_NONE, x -> x.trace());
        tells("fault", NAMES_NONE, x -> x.fault());
        tells("a text that is not taken", 0, x -> x.table(0, 0, 0, 7));
        tells("swap of one with himself", NAMES_NONE, x -> x.swap(1, 1));
        tells("step as it is", NAMES_NONE, x -> x.step(2));
        tells("courses as they are", NAMES_NONE, x -> x.courses(2));
        tells("copy that changes nothing", 0, x -> x.copy(0, 0, 0, 3, 0) + x.copy(0, 2, 0, 2, 2));
        tells("say as he says", NAMES_NONE, x -> x.say(0, 0, 3));
        tells("put as it is", 0, x -> x.put(1, 0, 300));
    }
}

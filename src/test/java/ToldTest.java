/** Promises 15 to 17: askings judged, the best, who should sit where. */
public final class ToldTest {
    private static final Due due = new Due();

    public static void main(String[] args) {
        judged();
        judgedInSeats();
        judgeRefused();
        best();
        bestOfSeveral();
        seats();
        seatsOfSeveral();
        seatsAnew();
        due.end();
    }

    private static void judged(RoundAsk x, int want, int... row) {
        Laid.row(x, 1, 0, row);
        due.is("judge", want, x.judge(1, 0, 0, row.length));
        due.is("fault", 0, x.fault());
    }

    private static void judged() {
        RoundAsk x = Laid.at(Laid.THREE);
        judged(x, -9);
        judged(x, -9, 1, 0, 0);
        judged(x, -9, 1, 0);
        judged(x, 0, 0, 0, 0);
        judged(x, 0, -9, 0, 0);
        judged(x, 1, 1, 1, 0);
        judged(x, 2, 1, 0, 1);
        judged(x, 2, 1, 0, -9);
        judged(x, 1, 1, -9, 0);
        x.courses(2);
        judged(x, -9, 1, 0, 0, -9, -9, -9);
        judged(x, 3, 1, 0, 0, 0, -9, -9);
        judged(x, 4, 1, 0, 0, -9, 0, -9);
        Laid.row(x, 2, 2, 0, 0, 1, 0, 0, 9);
        due.is("judge of cells from 2 on", -9, x.judge(2, 2, 2, 3));
        due.is("judge of cells from 1 on: the place in the row told", 0, x.judge(2, 2, 1, 3));
        Laid.row(x, 2, 2, 5, 1, 0, -9);
        due.is("judge of cells from 1 on: the last one", 2, x.judge(2, 2, 1, 3));
        RoundAsk six = Laid.at("d6111111111111;k0xxxxx0;c0xxxxx0");
        judged(six, 0, -9, 5);
        judged(six, -9, 5, -9);
        judged(six, 1, 5, 5);
        due.is("nobody remembers it", -8, x.ofGuest(0, 4));
        due.is("nothing was taken", 218, x.dine());
    }

    private static void judgedInSeats() {
        // Seat 0 is of guest 1 now; it asks for guest 0, seat 1 for guest 2, seat 2 for guest 1.
        RoundAsk x = Laid.at(Laid.THREE);
        x.swap(0, 1);
        judged(x, -9, 0, 0, 1);
        judged(x, 2, 0, 0, 0);
        judged(x, -9, 0, 1, -9);
        x.step(2);
        // Now seat 0 asks for guest 2, seat 1 for guest 1, seat 2 for guest 0.
        judged(x, -9, 0, 1, 0);
        judged(x, 1, 0, 0, 0);
        judged(x, 2, 1, -9, 1);
    }

    private static void judgeRefused() {
        RoundAsk x = Laid.at(Laid.THREE);
        Laid.row(x, 1, 1, 1, 0, 0, 0);
        due.is("sheet -1", -1, x.judge(-1, 5, 0, 1));
        due.is("sheet 4", -1, x.judge(4, 0, 0, 1));
        due.is("sort 3", -2, x.judge(1, 3, 0, 1));
        due.is("sort -1", -2, x.judge(2, -1, 0, 1));
        due.is("another sort", -12, x.judge(1, 2, 9, -1));
        due.is("fault", 2, x.fault());
        due.is("nothing", -11, x.judge(2, 2, 9, -1));
        due.is("fault", 1, x.fault());
        due.is("n below 0", -14, x.judge(1, 1, 9, -1));
        due.is("fault", 4, x.fault());
        due.is("not all there", -13, x.judge(1, 1, 1, 4));
        due.is("fault", 3, x.fault());
        due.is("i beyond, none", -13, x.judge(1, 1, 5, 0));
        due.is("i below 0, none", -13, x.judge(1, 1, -1, 0));
        due.is("i at the end, none", -9, x.judge(1, 1, 4, 0));
        due.is("more than courses times guests", -2, x.judge(1, 1, 0, 4));
        due.is("fault", 0, x.fault());
        x.put(1, 3, 2);
        due.is("more, ahead of no dish", -2, x.judge(1, 1, 0, 4));
        due.is("no dish 2", -1, x.judge(1, 1, 1, 3));
        x.put(1, 3, -1);
        due.is("no dish -1", -1, x.judge(1, 1, 1, 3));
        x.put(1, 3, -8);
        due.is("no dish -8, ahead of the first that can't be", -1, x.judge(1, 1, 1, 3));
        RoundAsk y = new RoundAsk();
        Laid.row(y, 0, 0, 77);
        due.is("no table", -3, y.judge(0, 0, 0, 1));
        due.is("no table, no cells", -3, y.judge(0, 0, 0, 0));
        due.is("a fault ahead of no table", -13, y.judge(0, 0, 0, 2));
    }

    private static void best(String text, int glad, int... row) {
        RoundAsk x = Laid.at(text);
        due.is("best of " + text, glad, x.best(-1));
        for (int g = 0; g < row.length; g++) {
            due.is("best of " + text + " for " + g, row[g], x.best(g));
        }
        due.is("best for one too many", -1, x.best(row.length));
    }

    private static void best() {
        best(Laid.THREE, 218, 0, 1, 0);
        // Dish 0 is there once: 1 has more of it, for KIN of 0, who asks for him.
        best("d21191;k951;k051", 10 + 95, 1, 0);
        RoundAsk x = Laid.at("d21191;k051;k951");
        due.is("now KIN of 1 counts for 0", 105, x.best(-1));
        due.is("so 0 gets it", 0, x.best(0));
        x.swap(0, 1);
        due.is("of two the one asks for the other in any seats", 0, x.best(0));
        due.is("best(-2)", -1, x.best(-2));
        due.is("best(max)", -1, x.best(Integer.MAX_VALUE));
        // Of three, KIN of 0 counts for whom he asks.
        x = Laid.at("d21191;k951;k051;k051");
        due.is("step 1: for 1", 0, x.best(1));
        x.step(2);
        due.is("step 2: for 2", 0, x.best(2));
        due.is("step 2: not for 1", 1, x.best(1));
        x.swap(1, 2);
        due.is("seats changed: for 1", 0, x.best(1));
        x.say(1, 0, 0);
        due.is("what he says does not count", 0, x.best(1));
        x.dine();
        x.courses(8);
        due.is("all dishes there, one course", 0, x.best(1));
        due.is("one course", 95 + 20, x.best(-1));
    }

    private static void bestOfSeveral() {
        best("d21111;k055;k055;k055", 100, 0, 1, -9);
        best("d21111;k000;k000", 0, 0, 1);
        best("d21111;k000;k000;k000", 0, 0, 1, -9);
        best("d29911;k055;k055", 100, 0, 0);
        best("d21111;k05x;k05x", 50, 0, -9);
        best("d21111;k0x5;k0x5;k0x9", 90, -9, -9, 1);
        best("d21111;k054;k054;k05x", 90, 0, 1, -9);
        best("d6111111111111;k0555555;k0555555;k0555555;k0555555;k0555555;k0555555;k0555555",
            300, 0, 1, 2, 3, 4, 5, -9);
        best("d6999999999999;k9999999;k9999999;k9999999;k9999999;k9999999;k9999999;k9999999",
            7 * 171, 0, 0, 0, 0, 0, 0, 0);
        best("d21111;k0x0;k00x", 0, 1, 0);
    }

    private static void seats() {
        RoundAsk x = Laid.at(Laid.THREE);
        due.is("all, as they sit", 218, x.seats(0, -1));
        due.is("the least, as they sit", 40, x.seats(1, -1));
        for (int s = 0; s < 3; s++) {
            due.is("seats(0, " + s + ")", s, x.seats(0, s));
            due.is("seats(1, " + s + ")", s, x.seats(1, s));
        }
        // With step 2 it is the other round that is as good.
        x.step(2);
        due.is("all, step 2", 218, x.seats(0, -1));
        due.is("seat 1, step 2", 2, x.seats(0, 1));
        due.is("seat 2, step 2", 1, x.seats(0, 2));
        due.is("seats(2, 0)", -2, x.seats(2, 0));
        due.is("seats(-1, 9)", -2, x.seats(-1, 9));
        due.is("seats(0, 3)", -1, x.seats(0, 3));
        due.is("seats(1, -2)", -1, x.seats(1, -2));
    }

    private static void seatsOfSeveral() {
        RoundAsk x = Laid.at("d29191;k055;k055;k055;k055;k055;k055;k055");
        for (int s = 0; s < 7; s++) {
            due.is("all alike: the first row", s, x.seats(0, s));
            due.is("all alike: the first row", s, x.seats(1, s));
        }
        due.is("all alike: in all", 350, x.seats(0, -1));
        due.is("all alike: the least", 50, x.seats(1, -1));
        // Each but 0 would take what the next one needs: all get something only in the last row.
        x = Laid.at("d6111111111111;k0000000;k0xxxx98;k0xxx98x;k0xx98xx;k0x98xxx;k098xxxx;k09xxxxx");
        due.is("the last row: in all", 490, x.seats(0, -1));
        for (int s = 1; s < 7; s++) {
            due.is("the last row", 7 - s, x.seats(0, s));
        }
        // Dish 0 is there once, and goes to the one in seat 1.
        x = Laid.at("d21199;k090;k010;k020;k030");
        due.is("30 for dish 0", 30, x.seats(0, -1));
        due.is("seat 1", 3, x.seats(0, 1));
        due.is("seat 2", 1, x.seats(0, 2));
        due.is("seat 3", 2, x.seats(0, 3));
    }

    private static void seatsAnew() {
        // It is of those who remember nothing, where they sit now makes nothing out.
        RoundAsk x = Laid.at(Laid.THREE);
        x.dine();
        x.swap(0, 2);
        due.is("all, after an evening", 218, x.seats(0, -1));
        due.is("0 in seat 0", 0, x.seats(0, 0));
        due.is("seats are not changed by it", 2, x.ofGuest(0, 3));
        due.is("memory is not changed by it", 1, x.ofGuest(1, 4));
        // What is said counts, and so do courses and a new table.
        x = Laid.at("d29191;k091;k091");
        due.is("all", 180, x.seats(0, -1));
        x.say(0, 1, 9);
        x.say(0, 0, 0);
        due.is("all, 0 says other", 100, x.seats(0, -1));
        due.is("the least, 0 says other", 10, x.seats(1, -1));
        x.courses(2);
        due.is("all, two courses", 200, x.seats(0, -1));
        Laid.table(x, "d29191;k091;k091");
        due.is("all, a new table", 180, x.seats(0, -1));
    }
}

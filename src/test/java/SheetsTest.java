/** Promises 25 to 34: sheets, parts. */
public final class SheetsTest {
    private static final Due due = new Due();

    public static void main(String[] args) {
        sheets();
        losing();
        puts();
        cells();
        copies();
        copyRefused();
        bodies();
        kinds();
        faults();
        due.end();
    }

    private static void sheets() {
        RoundAsk x = new RoundAsk();
        due.is("a sheet of 3", 1, x.sheet(0, 1, 3));
        x.put(0, 1, 7);
        due.is("a sheet of none", 1, x.sheet(3, 2, 0));
        due.is("it has no cell", RoundAsk.LOST, x.cell(3, 0, 2));
        due.is("a sheet of 100", 1, x.sheet(1, 0, 100));
        due.is("its last cell", 0, x.cell(1, 99, 0));
        due.is("k -1", -1, x.sheet(-1, 9, -1));
        due.is("k 4", -1, x.sheet(4, 0, 1));
        due.is("sort 3", -2, x.sheet(0, 3, -1));
        due.is("sort -1", -2, x.sheet(0, -1, 1));
        due.is("n 101", -2, x.sheet(0, 0, 101));
        due.is("fault", 0, x.fault());
        due.is("n -1", -14, x.sheet(0, 0, -1));
        due.is("fault", 4, x.fault());
        due.is("the row stays", 7, x.cell(0, 1, 1));
        due.is("a new row", 1, x.sheet(0, 1, 2));
        due.is("fault", 0, x.fault());
        due.is("it is 0 again", 0, x.cell(0, 1, 1));
        due.is("it is shorter", RoundAsk.LOST, x.cell(0, 2, 1));
    }

    private static void losing() {
        RoundAsk x = new RoundAsk();
        due.is("nothing to lose", 0, x.lose(2));
        x.sheet(2, 0, 1);
        due.is("lose", 1, x.lose(2));
        due.is("lose again", 0, x.lose(2));
        due.is("it has nothing", -11, x.put(2, 0, 1));
        x.sheet(2, 0, 0);
        due.is("lose a row of none", 1, x.lose(2));
        due.is("k -1", -1, x.lose(-1));
        due.is("k 4", -1, x.lose(4));
    }

    private static void puts() {
        RoundAsk x = new RoundAsk();
        int[] values = {127, 128, -128, -129, 255, 256, 32767, 32768, -32769, Integer.MIN_VALUE, Integer.MAX_VALUE};
        for (int sort = 0; sort <= 2; sort++) {
            x.sheet(sort, sort, 2);
            for (int v : values) {
                due.is("put", 1, x.put(sort, 1, v));
                long want = sort == 0 ? (byte) v : sort == 1 ? (short) v : v;
                due.is(v + " as sort " + sort, want, x.cell(sort, 1, sort));
                due.is("the other cell", 0, x.cell(sort, 0, sort));
            }
        }
        due.is("k -1", -1, x.put(-1, 0, 0));
        due.is("k 4", -1, x.put(4, 0, 0));
        due.is("nothing", -11, x.put(3, -1, 0));
        due.is("fault", 1, x.fault());
        due.is("i 2", -13, x.put(0, 2, 0));
        due.is("fault", 3, x.fault());
        due.is("i -1", -13, x.put(0, -1, 0));
        due.is("i max", -13, x.put(0, Integer.MAX_VALUE, 0));
        due.is("i min", -13, x.put(0, Integer.MIN_VALUE, 0));
        due.is("put", 1, x.put(0, 0, 5));
        due.is("fault", 0, x.fault());
    }

    private static void cells() {
        RoundAsk x = new RoundAsk();
        Laid.row(x, 0, 1, 5, -6, 300);
        due.is("cell 0", 5, x.cell(0, 0, 1));
        due.is("cell 1", -6, x.cell(0, 1, 1));
        due.is("cell 2", 300, x.cell(0, 2, 1));
        due.is("fault", 0, x.fault());
        due.is("cell 3", RoundAsk.LOST, x.cell(0, 3, 1));
        due.is("fault", 3, x.fault());
        due.is("cell -1", RoundAsk.LOST, x.cell(0, -1, 1));
        due.is("as bytes", RoundAsk.LOST, x.cell(0, 3, 0));
        due.is("fault", 2, x.fault());
        due.is("as ints", RoundAsk.LOST, x.cell(0, 0, 2));
        due.is("nothing as ints", RoundAsk.LOST, x.cell(1, 3, 2));
        due.is("fault", 1, x.fault());
        due.is("sort 3", RoundAsk.LOST, x.cell(0, 0, 3));
        due.is("fault of a refused call", 0, x.fault());
        x.put(1, 0, 0);
        due.is("k 4", RoundAsk.LOST, x.cell(4, 0, 1));
        due.is("fault of a refused call", 0, x.fault());
        due.is("k -1", RoundAsk.LOST, x.cell(-1, 0, 1));
    }

    private static void row(RoundAsk x, int k, int sort, int... want) {
        for (int i = 0; i < want.length; i++) {
            due.is("cell " + i + " of sheet " + k, want[i], x.cell(k, i, sort));
        }
        due.is("no cell more", RoundAsk.LOST, x.cell(k, want.length, sort));
    }

    private static void copies() {
        RoundAsk x = new RoundAsk();
        Laid.row(x, 0, 1, 1, 2, 3, 4, 5);
        Laid.row(x, 1, 1, 9, 9, 9);
        due.is("to another", 2, x.copy(0, 1, 1, 0, 2));
        row(x, 1, 1, 2, 3, 9);
        row(x, 0, 1, 1, 2, 3, 4, 5);
        due.is("to the same, onward", 4, x.copy(0, 0, 0, 1, 4));
        row(x, 0, 1, 1, 1, 2, 3, 4);
        due.is("to the same, backward", 4, x.copy(0, 1, 0, 0, 4));
        row(x, 0, 1, 1, 2, 3, 4, 4);
        due.is("none at the ends", 0, x.copy(0, 5, 1, 3, 0));
        due.is("all", 3, x.copy(1, 0, 1, 0, 3));
        row(x, 1, 1, 2, 3, 9);
        due.is("fault", RoundAsk.LOST, x.cell(1, 3, 1));
        due.is("copy", 1, x.copy(0, 0, 1, 2, 1));
        due.is("fault", 0, x.fault());
    }

    private static void copyRefused() {
        RoundAsk x = new RoundAsk();
        Laid.row(x, 0, 1, 1, 2, 3);
        Laid.row(x, 1, 1, 4, 5);
        Laid.row(x, 2, 2, 6);
        due.is("k 4", -1, x.copy(4, 0, 0, 0, 1));
        due.is("k -1", -1, x.copy(-1, 0, 3, 0, 1));
        due.is("other 4", -1, x.copy(3, 0, 4, 0, 1));
        due.is("other -1", -1, x.copy(0, 0, -1, 0, 1));
        due.is("fault", 0, x.fault());
        due.is("the first is nothing", -11, x.copy(3, -1, 2, -1, -1));
        due.is("the other is nothing", -11, x.copy(2, -1, 3, -1, -1));
        due.is("fault", 1, x.fault());
        due.is("unlike sorts", -12, x.copy(0, -1, 2, -1, -1));
        due.is("fault", 2, x.fault());
        int[][] places = {{-1, 0, 1}, {0, -1, 1}, {0, 0, -1}, {3, 0, 1}, {0, 2, 1}, {4, 0, 0}, {0, 3, 0}, {0, 0, 3},
            {2, 0, 2}, {0, 0, Integer.MAX_VALUE}, {Integer.MAX_VALUE, 0, 1}, {1, 1, Integer.MAX_VALUE},
            {-1, 0, 0}, {0, -1, 0}, {Integer.MIN_VALUE, 0, Integer.MIN_VALUE}};
        for (int[] p : places) {
            due.is("copy " + p[0] + " " + p[1] + " " + p[2], -13, x.copy(0, p[0], 1, p[1], p[2]));
            due.is("fault", 3, x.fault());
        }
        row(x, 0, 1, 1, 2, 3);
        row(x, 1, 1, 4, 5);
    }

    private static int traced(int... bodies) {
        int trace = 0;
        for (int body : bodies) {
            trace = 31 * trace + body;
        }
        return trace;
    }

    private static void bodies() {
        RoundAsk x = Laid.at(Laid.THREE);
        due.is("trace", 0, x.trace());
        due.is("tell KIND", 2, x.tell(0));
        due.is("trace", traced(1), x.trace());
        due.is("tell CHEAP", 101, x.tell(1));
        due.is("trace", traced(1, 2, 1), x.trace());
        due.is("tell PAYER", 100, x.tell(2));
        due.is("trace", traced(1, 2, 1, 3, 2, 1, 1), x.trace());
        due.is("greet KIND", 0, x.greet(0));
        due.is("trace", traced(1, 2, 1, 3, 2, 1, 1, 4), x.trace());
        due.is("greet CHEAP", 1, x.greet(1));
        due.is("greet PAYER", 70, x.greet(2));
        int want = traced(1, 2, 1, 3, 2, 1, 1, 4, 4, 5);
        due.is("trace, which wraps", want, x.trace());
        due.is("tell 3", -1, x.tell(3));
        due.is("tell -1", -1, x.tell(-1));
        due.is("greet 3", -1, x.greet(3));
        due.is("greet -1", -1, x.greet(-1));
        due.is("trace as before", want, x.trace());
        x.swap(0, 1);
        due.is("greet, seats changed", 1, x.greet(1));
        RoundAsk y = Laid.at("d22153;p9412;p0412");
        due.is("tell PAYER: KIN twice, and 100", 118, y.tell(0));
        due.is("tell PAYER of KIN 0", 100, y.tell(1));
    }

    private static void kinds() {
        RoundAsk x = Laid.at(Laid.THREE);
        for (int g = 0; g < 3; g++) {
            for (int kind = 0; kind < 3; kind++) {
                due.is("as(" + g + ", " + kind + ")", kind <= g ? 1 : -12, x.as(g, kind));
                due.is("fault", kind <= g ? 0 : 2, x.fault());
            }
        }
        x.as(0, 2);
        due.is("kind 3", -2, x.as(0, 3));
        due.is("fault of a refused call", 0, x.fault());
        due.is("kind -1", -2, x.as(0, -1));
        x.as(0, 2);
        due.is("guest 3", -1, x.as(3, 9));
        due.is("fault of a refused call", 0, x.fault());
        due.is("guest -1", -1, x.as(-1, 0));
    }

    private static void faults() {
        RoundAsk x = Laid.at(Laid.THREE);
        due.is("put beyond", -13, x.put(0, 100, 0));
        // None of these names a fault, refused or not.
        x.lose(3);
        x.lose(9);
        x.tell(9);
        x.greet(0);
        x.dine();
        x.many(9);
        x.best(9);
        x.step(9);
        x.worth(9, 9, true);
        x.chair(9);
        due.is("fault stays", 3, x.fault());
        due.is("fault stays when told", 3, x.fault());
        x.judge(0, 1, 0, 0);
        due.is("fault of judge", 2, x.fault());
        x.judge(0, 0, 0, 0);
        due.is("judge came to none", 0, x.fault());
        x.copy(0, 0, 0, 0, -1);
        due.is("fault of copy", 3, x.fault());
        x.table(9, 0, 0, 0);
        due.is("table was refused", 0, x.fault());
        x.sheet(1, 0, -1);
        due.is("fault of sheet", 4, x.fault());
        x.as(1, 1);
        due.is("as came to none", 0, x.fault());
        due.is("constants", -1 * 10000 - 2 * 1000 - 3 * 100 - 4 * 10 - 9, RoundAsk.UNKNOWN * 10000
            + RoundAsk.OUTSIDE * 1000 + RoundAsk.STATE * 100 + RoundAsk.FULL * 10 + RoundAsk.NONE);
        due.is("LOST", Long.MIN_VALUE, RoundAsk.LOST);
    }
}

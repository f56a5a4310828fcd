/** Promises 25 to 34 and part 6 at their edges, a test for each sentence: SHEETS, TELLING, GREETED, FAULTS. */
public final class EdgeSheetTest {
    private static final Due due = new Due();
    private static final int[] FAR = {Integer.MIN_VALUE, Integer.MIN_VALUE + 1, -1, Integer.MAX_VALUE};

    public static void main(String[] args) {
        fourSheets();
        nothingAtFirst();
        sizes();
        zeroAtFirst();
        sorts();
        sizeBelowNone();
        lose();
        putPlaces();
        cutToItsSort();
        cellPlaces();
        cellOfAnotherSort();
        nothingIsNoCast();
        copyAsTheyWere();
        copyPlaces();
        copyNone();
        copySorts();
        copyOfNothing();
        rowsOfTablePlaces();
        traceWraps();
        traceOfBodies();
        traceOfTheRefused();
        tellLeastAndMost();
        greet();
        as();
        faultAtFirst();
        faultOfTheLatest();
        faultOfTheRefused();
        faultOfOthers();
        due.end();
    }

    // "SHEETS 0 .. 3"
    private static void fourSheets() {
        RoundAsk x = new RoundAsk();
        for (int k = 0; k < 4; k++) {
            due.is("sheet " + k, 1, x.sheet(k, k % 3, k));
        }
        for (int k = 0; k < 4; k++) {
            due.is("sheet " + k + " has as many as it was given", RoundAsk.LOST, x.cell(k, k, k % 3));
            due.is("fault", 3, x.fault());
            due.is("and not less", k == 0 ? RoundAsk.LOST : 0, x.cell(k, k - 1, k % 3));
        }
        for (int k : new int[] {-1, 4, 5, Integer.MIN_VALUE, Integer.MAX_VALUE}) {
            due.is("sheet " + k, -1, x.sheet(k, 0, 1));
            due.is("lose " + k, -1, x.lose(k));
            due.is("put " + k, -1, x.put(k, 0, 1));
            due.is("cell " + k, RoundAsk.LOST, x.cell(k, 0, 0));
            due.is("copy from " + k, -1, x.copy(k, 0, 0, 0, 0));
            due.is("copy to " + k, -1, x.copy(0, 0, k, 0, 0));
            due.is("table " + k, -1, x.table(k, 0, 0, 0));
            due.is("judge " + k, -1, x.judge(k, 0, 0, 0));
        }
    }

    // "have nothing (at first)"
    private static void nothingAtFirst() {
        RoundAsk x = new RoundAsk();
        for (int k = 0; k < 4; k++) {
            due.is("put", -11, x.put(k, 0, 0));
            for (int sort = 0; sort < 3; sort++) {
                due.is("cell", RoundAsk.LOST, x.cell(k, 0, sort));
                due.is("fault", 1, x.fault());
                due.is("table", -11, x.table(k, sort, 0, 0));
                due.is("judge", -11, x.judge(k, sort, 0, 0));
            }
            due.is("copy", -11, x.copy(k, 0, k, 0, 0));
            due.is("lose", 0, x.lose(k));
        }
    }

    // "or a row of 0 .. 100 numbers", "OUTSIDE: .. n above 100"
    private static void sizes() {
        for (int sort = 0; sort < 3; sort++) {
            for (int n = 0; n <= 100; n++) {
                RoundAsk x = new RoundAsk();
                due.is("a row of " + n, 1, x.sheet(0, sort, n));
                due.is("its last one", n == 0 ? RoundAsk.LOST : 0, x.cell(0, n - 1, sort));
                due.is("put in it", n == 0 ? -13 : 1, x.put(0, n - 1, 7));
                due.is("none beyond", RoundAsk.LOST, x.cell(0, n, sort));
                due.is("fault", 3, x.fault());
                due.is("none beyond", -13, x.put(0, n, 7));
            }
            for (int n : new int[] {101, 102, 128, 256, Integer.MAX_VALUE}) {
                due.is("a row of " + n, -2, new RoundAsk().sheet(0, sort, n));
            }
        }
    }

    // "(0 at first)"
    private static void zeroAtFirst() {
        RoundAsk x = new RoundAsk();
        int[] sizes = {100, 100, 3, 100};
        for (int round = 0; round < sizes.length; round++) {
            int n = sizes[round];
            due.is("a new row", 1, x.sheet(2, round % 3, n));
            for (int i = 0; i < n; i += round == 0 ? 1 : 33) {
                due.is("cell " + i + " of a new row", 0, x.cell(2, i, round % 3));
            }
            x.put(2, 0, 5);
            x.put(2, 2, 6);
            x.put(2, n - 1, 7);
        }
        // A row that was lost does not come back.
        x.lose(2);
        x.sheet(2, 2, 100);
        for (int i = 0; i < 100; i++) {
            due.is("cell " + i + " after a loss", 0, x.cell(2, i, 2));
        }
    }

    // "of a SORT: 0 bytes, 1 shorts, 2 ints"
    private static void sorts() {
        RoundAsk x = new RoundAsk();
        for (int sort : new int[] {-1, 3, Integer.MIN_VALUE, Integer.MAX_VALUE}) {
            due.is("sheet of sort " + sort, -2, x.sheet(0, sort, 1));
            due.is("it has nothing", 0, x.lose(0));
            x.sheet(1, 0, 1);
            due.is("cell as " + sort, RoundAsk.LOST, x.cell(1, 0, sort));
            due.is("table as " + sort, -2, x.table(1, sort, 0, 1));
            due.is("judge as " + sort, -2, x.judge(1, sort, 0, 1));
        }
        for (int sort = 0; sort < 3; sort++) {
            due.is("sheet of sort " + sort, 1, x.sheet(0, sort, 1));
            for (int as = 0; as < 3; as++) {
                due.is("sort " + sort + " as " + as, as == sort ? 0 : RoundAsk.LOST, x.cell(0, 0, as));
                due.is("fault", as == sort ? 0 : 2, x.fault());
            }
        }
    }

    // "4 SIZE (a length below 0)"
    private static void sizeBelowNone() {
        RoundAsk x = new RoundAsk();
        for (int n : new int[] {-1, -2, -100, -101, Integer.MIN_VALUE}) {
            due.is("a row of " + n, -14, x.sheet(0, 2, n));
            due.is("fault", 4, x.fault());
            due.is("it has nothing", 0, x.lose(0));
        }
        x.sheet(0, 0, 0);
        for (int n : new int[] {-1, Integer.MIN_VALUE}) {
            due.is("a text of " + n, -14, x.table(0, 0, 0, n));
            due.is("fault", 4, x.fault());
            due.is("judge " + n, -14, x.judge(0, 0, 0, n));
            due.is("fault", 4, x.fault());
        }
    }

    // "A SHEET has nothing: 1; 0: it had nothing."
    private static void lose() {
        RoundAsk x = new RoundAsk();
        for (int k = 0; k < 4; k++) {
            due.is("it had nothing", 0, x.lose(k));
            x.sheet(k, 0, 0);
            due.is("a row of none", 1, x.lose(k));
            x.sheet(k, 2, 100);
            due.is("a row of 100", 1, x.lose(k));
            due.is("it had nothing", 0, x.lose(k));
            due.is("no cell", -11, x.put(k, 0, 0));
        }
        x.sheet(0, 0, 1);
        x.sheet(3, 0, 1);
        x.lose(3);
        due.is("the others stay", 0, x.cell(0, 0, 0));
    }

    // "Cell i of a SHEET becomes v: 1. UNKNOWN; NULL; INDEX."
    private static void putPlaces() {
        RoundAsk x = new RoundAsk();
        x.sheet(0, 2, 3);
        for (int i = 0; i < 3; i++) {
            due.is("put " + i, 1, x.put(0, i, 10 + i));
        }
        for (int i : new int[] {3, 99, 100, 101}) {
            due.is("put " + i, -13, x.put(0, i, 9));
        }
        for (int i : FAR) {
            due.is("put " + i, -13, x.put(0, i, 9));
            due.is("fault", 3, x.fault());
        }
        for (int i = 0; i < 3; i++) {
            due.is("cell " + i, 10 + i, x.cell(0, i, 2));
        }
    }

    // "what comes to a cell of it is cut to its SORT (with its sign)"
    private static void cutToItsSort() {
        int[][] cuts = {{127, 127, 127}, {128, -128, 128}, {255, -1, 255}, {256, 0, 256}, {-128, -128, -128},
            {-129, 127, -129}, {-256, 0, -256}, {32767, -1, 32767}, {32768, 0, -32768}, {65535, -1, -1}, {65536, 0, 0},
            {-32768, 0, -32768}, {-32769, -1, 32767}, {Integer.MAX_VALUE, -1, -1}, {Integer.MIN_VALUE, 0, 0}};
        RoundAsk x = new RoundAsk();
        for (int sort = 0; sort < 3; sort++) {
            x.sheet(0, sort, 100);
            for (int[] cut : cuts) {
                x.put(0, 99, cut[0]);
                due.is(cut[0] + " as sort " + sort, sort == 2 ? cut[0] : cut[1 + sort], x.cell(0, 99, sort));
            }
        }
    }

    // "Cell i of what a SHEET has": INDEX
    private static void cellPlaces() {
        RoundAsk x = new RoundAsk();
        Laid.row(x, 1, 1, 5, 6, 7);
        for (int i = 0; i < 3; i++) {
            due.is("cell " + i, 5 + i, x.cell(1, i, 1));
            due.is("fault", 0, x.fault());
        }
        for (int i : new int[] {3, 4, 99, 100}) {
            due.is("cell " + i, RoundAsk.LOST, x.cell(1, i, 1));
            due.is("fault", 3, x.fault());
        }
        for (int i : FAR) {
            due.is("cell " + i, RoundAsk.LOST, x.cell(1, i, 1));
            due.is("fault", 3, x.fault());
        }
        Laid.row(x, 1, 1);
        due.is("cell 0 of none", RoundAsk.LOST, x.cell(1, 0, 1));
        due.is("fault", 3, x.fault());
    }

    // "2 CAST (it is of another sort ..)"
    private static void cellOfAnotherSort() {
        RoundAsk x = new RoundAsk();
        for (int sort = 0; sort < 3; sort++) {
            x.sheet(0, sort, 0);
            for (int as = 0; as < 3; as++) {
                int fault = as == sort ? 3 : 2;
                due.is("a row of none, as another", RoundAsk.LOST, x.cell(0, 0, as));
                due.is("fault", fault, x.fault());
                due.is("table", as == sort ? -100 : -12, x.table(0, as, 0, 0));
                due.is("judge", as == sort ? -3 : -12, x.judge(0, as, 0, 0));
            }
        }
    }

    // "CAST (nothing is no CAST)"
    private static void nothingIsNoCast() {
        RoundAsk x = new RoundAsk();
        for (int sort = 0; sort < 3; sort++) {
            x.sheet(0, (sort + 1) % 3, 5);
            x.lose(0);
            due.is("cell of nothing", RoundAsk.LOST, x.cell(0, 0, sort));
            due.is("fault", 1, x.fault());
            due.is("table of nothing", -11, x.table(0, sort, 0, 0));
            due.is("judge of nothing", -11, x.judge(0, sort, 0, 0));
        }
    }

    private static void row(RoundAsk x, int k, int sort, int... want) {
        for (int i = 0; i < want.length; i++) {
            due.is("cell " + i + " of sheet " + k, want[i], x.cell(k, i, sort));
        }
        due.is("no cell more", RoundAsk.LOST, x.cell(k, want.length, sort));
    }

    // "(perhaps the same) .., as they were"
    private static void copyAsTheyWere() {
        for (int sort = 0; sort < 3; sort++) {
            for (int i = 0; i <= 5; i++) {
                for (int j = 0; j <= 5; j++) {
                    for (int n = 0; n <= 5 - Math.max(i, j); n++) {
                        RoundAsk x = new RoundAsk();
                        Laid.row(x, 0, sort, 1, 2, 3, 4, 5);
                        Laid.row(x, 1, sort, 6, 7, 8, 9, 10);
                        int[] same = {1, 2, 3, 4, 5};
                        int[] other = {6, 7, 8, 9, 10};
                        for (int c = 0; c < n; c++) {
                            same[j + c] = 1 + i + c;
                            other[j + c] = 1 + i + c;
                        }
                        due.is("to another", n, x.copy(0, i, 1, j, n));
                        due.is("to the same", n, x.copy(0, i, 0, j, n));
                        row(x, 0, sort, same);
                        row(x, 1, sort, other);
                    }
                }
            }
        }
        RoundAsk x = new RoundAsk();
        x.sheet(0, 0, 100);
        x.put(0, 0, 5);
        due.is("99 of 100, onward", 99, x.copy(0, 0, 0, 1, 99));
        due.is("the first comes to the second alone", 0, x.cell(0, 2, 0));
        due.is("the first comes to the second", 5, x.cell(0, 1, 0));
        due.is("all of 100", 100, x.copy(0, 0, 0, 0, 100));
    }

    // "INDEX: i, j, n below 0 or beyond"
    private static void copyPlaces() {
        RoundAsk x = new RoundAsk();
        int[] some = {Integer.MIN_VALUE, -1, 0, 1, 2, 3, 4, 5, Integer.MAX_VALUE};
        for (int i : some) {
            for (int j : some) {
                x = new RoundAsk();
                Laid.row(x, 2, 1, 1, 2, 3);
                Laid.row(x, 3, 1, 4, 5, 6, 7);
                for (int n : some) {
                    boolean all = i >= 0 && j >= 0 && n >= 0 && (long) i + n <= 3 && (long) j + n <= 4;
                    due.is("copy of " + n + " from " + i + " to " + j, all ? n : -13, x.copy(2, i, 3, j, n));
                    due.is("fault", all ? 0 : 3, x.fault());
                    if (!all) {
                        row(x, 2, 1, 1, 2, 3);
                    }
                }
            }
        }
    }

    // "(of cells from i on also where i is not 0 .. how many there are, if none of them is taken, too)"
    private static void copyNone() {
        RoundAsk x = new RoundAsk();
        Laid.row(x, 0, 2, 1, 2);
        Laid.row(x, 1, 2, 3, 4, 5);
        Laid.row(x, 2, 2);
        due.is("none, at both ends", 0, x.copy(0, 2, 1, 3, 0));
        due.is("none, beyond the first", -13, x.copy(0, 3, 1, 3, 0));
        due.is("none, beyond the other", -13, x.copy(0, 2, 1, 4, 0));
        due.is("none, below the first", -13, x.copy(0, -1, 1, 0, 0));
        due.is("none, below the other", -13, x.copy(0, 0, 1, -1, 0));
        due.is("none of none", 0, x.copy(2, 0, 2, 0, 0));
        due.is("none of none, beyond", -13, x.copy(2, 1, 2, 0, 0));
        due.is("one of none", -13, x.copy(2, 0, 0, 0, 1));
        due.is("one to none", -13, x.copy(0, 0, 2, 0, 1));
    }

    // "CAST (unlike SORTS)"
    private static void copySorts() {
        RoundAsk x = new RoundAsk();
        for (int from = 0; from < 3; from++) {
            for (int to = 0; to < 3; to++) {
                Laid.row(x, 0, from, 1);
                Laid.row(x, 1, to, 2);
                due.is("from sort " + from + " to " + to, from == to ? 1 : -12, x.copy(0, 0, 1, 0, 1));
                due.is("the other one", from == to ? 1 : 2, x.cell(1, 0, to));
                due.is("none of unlike sorts", from == to ? 0 : -12, x.copy(0, 0, 1, 0, 0));
            }
        }
    }

    // "FAULTS NULL (the first, the other)"
    private static void copyOfNothing() {
        RoundAsk x = new RoundAsk();
        Laid.row(x, 1, 2, 5);
        due.is("both nothing", -11, x.copy(0, 0, 2, 0, 0));
        due.is("the same nothing", -11, x.copy(0, 0, 0, 0, 0));
        due.is("the first", -11, x.copy(0, 0, 1, 0, 0));
        due.is("the other", -11, x.copy(1, 0, 0, 0, 0));
        due.is("fault", 1, x.fault());
        due.is("neither", 0, x.copy(1, 0, 1, 0, 0));
        due.is("fault", 0, x.fault());
    }

    // INDEX of table and judge: "not all cells are there", and "if none of them is taken, too"
    private static void rowsOfTablePlaces() {
        int[] some = {Integer.MIN_VALUE, -1, 0, 1, 2, 3, 4, Integer.MAX_VALUE};
        for (int i : some) {
            for (int n : some) {
                RoundAsk x = Laid.at(Laid.THREE);
                Laid.row(x, 2, 1, -9, -9, -9);
                boolean all = i >= 0 && n >= 0 && (long) i + n <= 3;
                due.is("judge " + n + " from " + i, n < 0 ? -14 : !all ? -13 : n == 0 ? -9 : 0, x.judge(2, 1, i, n));
                due.is("fault", n < 0 ? 4 : all ? 0 : 3, x.fault());
                due.is("table " + n + " from " + i, n < 0 ? -14 : all ? -100 : -13, x.table(2, 1, i, n));
                due.is("fault", n < 0 ? 4 : all ? 0 : 3, x.fault());
            }
        }
    }

    private static int traced(int trace, int... bodies) {
        int now = trace;
        for (int body : bodies) {
            now = 31 * now + body;
        }
        return now;
    }

    // "TRACE (an int that wraps, 0 at first, becomes 31 times it and the number)"
    private static void traceWraps() {
        RoundAsk x = Laid.at("d21010;k000;k000");
        due.is("at first", 0, x.trace());
        long plain = 0;
        int trace = 0;
        boolean above = false;
        boolean below = false;
        for (int k = 0; k < 100; k++) {
            x.greet(0);
            plain = plain * 31 + 4;
            trace = traced(trace, 4);
            due.is("after " + (k + 1), (int) plain, x.trace());
            above |= trace > 0;
            below |= trace < 0;
        }
        due.is("it wraps", 1, above && below ? 1 : 0);
    }

    // "bodies that leave their number in TRACE .. as they begin"
    private static void traceOfBodies() {
        String text = "d21010;k500;c600;p7900";
        int[][] told = {{1}, {2, 1}, {3, 2, 1, 1}};
        for (int g = 0; g < 3; g++) {
            RoundAsk x = Laid.at(text);
            x.tell(g);
            due.is("tell " + g, traced(0, told[g]), x.trace());
            x.tell(g);
            due.is("tell " + g + " again", traced(traced(0, told[g]), told[g]), x.trace());
            x = Laid.at(text);
            x.greet(g);
            due.is("greet " + g, g == 2 ? 5 : 4, x.trace());
        }
    }

    // A refused call leaves nothing.
    private static void traceOfTheRefused() {
        RoundAsk x = Laid.at("d21010;k500;c600;p7900");
        x.tell(1);
        int trace = x.trace();
        for (int bad : new int[] {-1, 3, 7, Integer.MIN_VALUE, Integer.MAX_VALUE}) {
            due.is("tell " + bad, -1, x.tell(bad));
            due.is("greet " + bad, -1, x.greet(bad));
            due.is("trace", trace, x.trace());
        }
        due.is("told alone", trace, x.trace());
        RoundAsk y = new RoundAsk();
        due.is("tell without a table", -1, y.tell(0));
        due.is("greet without a table", -1, y.greet(0));
        due.is("trace", 0, y.trace());
    }

    // "KIND (1): KIN. CHEAP (2): what KIND's gives, and 100. PAYER (3): what CHEAP's gives, and what KIND's gives"
    private static void tellLeastAndMost() {
        for (int kin = 0; kin <= 9; kin++) {
            RoundAsk x = Laid.at("d21010;k" + kin + "00;c" + kin + "00;p" + kin + "900");
            due.is("KIND", kin, x.tell(0));
            due.is("CHEAP", kin + 100, x.tell(1));
            due.is("PAYER", kin + 100 + kin, x.tell(2));
        }
    }

    // "the own number of the one that is told, its place in its list; PAYERS have their own (5): 70"
    private static void greet() {
        for (int n = 2; n <= 7; n++) {
            for (int g = 0; g < n; g++) {
                String[] ones = {";k000", ";c000", ";p0000"};
                for (int kind = 0; kind < 3; kind++) {
                    RoundAsk x = Laid.at("d21010" + ones[0].repeat(g) + ones[kind] + ones[0].repeat(n - 1 - g));
                    x.swap(0, n - 1);
                    due.is("greet " + g, kind == 2 ? 70 : g, x.greet(g));
                }
            }
        }
    }

    // "A GUEST, taken as one of a kind: 1. .. CAST: he is none (each is a KIND, too; a PAYER is CHEAP)."
    private static void as() {
        RoundAsk x = Laid.at("d21010;k500;c600;p7900");
        int[][] want = {{1, -12, -12}, {1, 1, -12}, {1, 1, 1}};
        for (int g = 0; g < 3; g++) {
            for (int kind = 0; kind < 3; kind++) {
                due.is("as(" + g + ", " + kind + ")", want[g][kind], x.as(g, kind));
                due.is("fault", want[g][kind] == 1 ? 0 : 2, x.fault());
            }
            for (int bad : new int[] {-1, 3, Integer.MIN_VALUE, Integer.MAX_VALUE}) {
                due.is("kind " + bad, -2, x.as(g, bad));
                due.is("fault", 0, x.fault());
            }
        }
        for (int bad : new int[] {-1, 3, 7, Integer.MIN_VALUE, Integer.MAX_VALUE}) {
            due.is("guest " + bad, -1, x.as(bad, 0));
        }
        due.is("without a table", -1, new RoundAsk().as(0, 0));
    }

    // "(0 ahead of any)"
    private static void faultAtFirst() {
        RoundAsk x = new RoundAsk();
        due.is("at first", 0, x.fault());
        x.dine();
        x.trace();
        due.is("ahead of any that names one", 0, x.fault());
    }

    // "The FAULT of the latest call that names one: 0: it came to none"
    private static void faultOfTheLatest() {
        RoundAsk x = Laid.at(Laid.THREE);
        for (int names = 0; names < 7; names++) {
            x.put(0, 999, 0);
            due.is("INDEX", 3, x.fault());
            int answer = comeToNone(x, names);
            due.is("call " + names + " came to none: " + answer, 0, x.fault());
        }
    }

    private static int comeToNone(RoundAsk x, int names) {
        switch (names) {
            case 0: return x.table(0, 0, 0, Laid.THREE.length());
            case 1: return x.judge(0, 0, 0, 0);
            case 2: return x.sheet(1, 0, 1);
            case 3: return x.put(0, 0, 'd');
            case 4: return (int) x.cell(0, 0, 0);
            case 5: return x.copy(0, 0, 0, 0, 1);
            default: return x.as(0, 0);
        }
    }

    // ".. or was refused"
    private static void faultOfTheRefused() {
        RoundAsk x = Laid.at(Laid.THREE);
        for (int names = 0; names < 12; names++) {
            x.sheet(3, 0, -1);
            due.is("SIZE", 4, x.fault());
            long answer = refused(x, names);
            due.is("call " + names + " was refused", 1, answer < 0 && answer > -10 || answer == RoundAsk.LOST ? 1 : 0);
            due.is("call " + names + " was refused: " + answer, 0, x.fault());
        }
    }

    private static long refused(RoundAsk x, int names) {
        switch (names) {
            case 0: return x.table(4, 0, 0, 1);
            case 1: return x.table(0, 3, 0, 1);
            case 2: return x.judge(4, 0, 0, 0);
            case 3: return x.judge(0, 0, 0, 4);
            case 4: return x.judge(0, 0, 0, 1);
            case 5: return x.sheet(4, 0, 1);
            case 6: return x.sheet(0, 0, 101);
            case 7: return x.put(-1, 0, 0);
            case 8: return x.cell(0, 0, 3);
            case 9: return x.copy(0, 0, 4, 0, 0);
            case 10: return x.as(3, 0);
            default: return x.as(0, 3);
        }
    }

    // Calls that name no FAULT leave it as it was, refused or not.
    private static void faultOfOthers() {
        RoundAsk x = Laid.at(Laid.THREE);
        x.as(0, 1);
        due.is("CAST", 2, x.fault());
        for (int g = 0; g < 5; g += 4) {
            x.ofDish(g, g);
            x.ofGuest(g, g);
            x.worth(g, g, true);
            x.say(g, g, g);
            x.swap(g, g);
            x.step(g);
            x.courses(g);
            x.dine();
            x.gets(g, g);
            x.glad(g);
            x.pays(g, true, g);
            x.best(g);
            x.seats(g, g);
            x.ever(g);
            x.mean(g, g);
            x.leaves();
            x.spite(g, g);
            x.lies(g, g);
            x.chair(g);
            x.law(g);
            x.lose(g);
            x.tell(g);
            x.greet(g);
            x.trace();
            x.many(g);
            x.forget();
            due.is("it stays", 2, x.fault());
        }
    }
}

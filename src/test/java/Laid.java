/** Lays rows and texts in sheets, call by call, as one who uses the class would. */
final class Laid {
    // d2: dish 0 twice at 1, dish 1 once at 3; guests 0 (KIND), 1 (CHEAP, not dish 0), 2 (PAYER).
    static final String THREE = "d22113;k295;c1x7;p0648";

    private Laid() {
    }

    static int table(RoundAsk x, String text) {
        int n = text.length();
        x.sheet(0, 0, n);
        for (int i = 0; i < n; i++) {
            x.put(0, i, text.charAt(i));
        }
        return x.table(0, 0, 0, n);
    }

    static RoundAsk at(String text) {
        RoundAsk x = new RoundAsk();
        table(x, text);
        return x;
    }

    static void row(RoundAsk x, int k, int sort, int... cells) {
        x.sheet(k, sort, cells.length);
        for (int i = 0; i < cells.length; i++) {
            x.put(k, i, cells[i]);
        }
    }
}

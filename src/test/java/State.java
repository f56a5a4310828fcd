/** All that an object tells of itself, as a text: two of them that are equal have the same state. */
final class State {
    private State() {
    }

    /** What fault() tells is not in it: to tell the sheets is to ask a call that names faults. */
    static String of(RoundAsk x) {
        StringBuilder all = new StringBuilder(ofTable(x)).append('\n').append(x.trace());
        for (int k = 0; k < 4; k++) {
            sheet(x, k, all.append(" sheet "));
        }
        return all.toString();
    }

    /** What is of the table: what is told of it, and what hangs on that. */
    static String ofTable(RoundAsk x) {
        StringBuilder all = new StringBuilder();
        for (int what = 0; what < 5; what++) {
            all.append(x.many(what)).append(' ');
        }
        for (int g = 0; g < x.many(0); g++) {
            all.append("guest ");
            for (int what = 0; what < 5; what++) {
                all.append(x.ofGuest(g, what)).append(' ');
            }
            for (int d = 0; d < x.many(1); d++) {
                all.append(x.worth(g, d, true)).append(' ').append(x.worth(g, d, false)).append(' ');
            }
            all.append(x.glad(g)).append(' ').append(x.pays(g, false, 0)).append(' ').append(x.mean(g, 0)).append(' ');
        }
        for (int d = 0; d < x.many(1); d++) {
            all.append("dish ").append(x.ofDish(d, 0)).append(' ').append(x.ofDish(d, 1)).append(' ');
        }
        return all.append(x.best(-1)).append(' ').append(x.seats(0, -1)).append(' ').append(x.seats(1, -1)).toString();
    }

    private static void sheet(RoundAsk x, int k, StringBuilder all) {
        for (int sort = 0; sort < 3; sort++) {
            boolean first = true;
            for (int i = 0; i < 100; i++) {
                long cell = x.cell(k, i, sort);
                if (cell == RoundAsk.LOST) {
                    // A row of none and a row of another sort are told by their fault.
                    all.append(first ? x.fault() : 0).append(';');
                    break;
                }
                first = false;
                all.append(cell).append(' ');
            }
        }
    }
}

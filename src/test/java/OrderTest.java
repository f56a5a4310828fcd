/**
 * "REFUSALS, in the order in which a call's line tells them", FAULTS "the first that is come to, in the order
 * told": each call with all that can be wrong with it at once, in every way; what is told first is due.
 */
public final class OrderTest {
    private static final Due due = new Due();
    private static final int UNKNOWN = -1, OUTSIDE = -2, STATE = -3;
    private static final int NULL = -11, CAST = -12, INDEX = -13, SIZE = -14;
    private static final int NONE = 0;
    private static final int[] GUESTS = {Integer.MIN_VALUE, -1, 0, 2, 3, Integer.MAX_VALUE};
    private static final int[] DISHES = {Integer.MIN_VALUE, -1, 0, 1, 2, Integer.MAX_VALUE};
    private static final int[] WHATS = {Integer.MIN_VALUE, -1, 0, 1, 2, 9, Integer.MAX_VALUE};
    private static final int[] SHEETS = {Integer.MIN_VALUE, -1, 0, 1, 3, 4, Integer.MAX_VALUE};
    private static final int[] SORTS = {Integer.MIN_VALUE, -1, 0, 1, 2, 3, Integer.MAX_VALUE};
    private static final int[] PLACES = {Integer.MIN_VALUE, -1, 0, 1, 5, 6, Integer.MAX_VALUE};

    public static void main(String[] args) {
        for (boolean there : new boolean[] {false, true}) {
            ofDishAndGuest(there);
            worth(there);
            say(there);
            swap(there);
            courses(there);
            gets(there);
            shares(there);
            guestAndWhat(there);
            best(there);
            seats(there);
            everAndLaw(there);
            as(there);
            table(there);
            judge(there);
            sheet(there);
            put(there);
            cell(there);
            copy(there);
        }
        due.end();
    }

    /** Sheet 0 has five bytes, 1 three shorts, 2 no ints, 3 nothing; perhaps there is a table. */
    private static RoundAsk x(boolean there) {
        RoundAsk x = there ? Laid.at(Laid.THREE) : new RoundAsk();
        Laid.row(x, 0, 0, 1, 0, 0, 9, 0);
        Laid.row(x, 1, 1, 300, 300, 300);
        x.sheet(2, 2, 0);
        return x;
    }

    private static boolean in(int v, int below) {
        return v >= 0 && v < below;
    }

    private static boolean guest(boolean there, int g) {
        return there && in(g, 3);
    }

    private static boolean dish(boolean there, int d) {
        return there && in(d, 2);
    }

    /** If it is refused, the answer is the refusal; if not, it is none. */
    private static void refusal(String call, int want, long got) {
        if (want != NONE) {
            due.is(call, want, got);
        } else {
            due.is(call + " is not refused", 1, got >= 0 || got == -8 || got == -9 ? 1 : 0);
        }
    }

    private static void lost(String call, boolean refused, long got) {
        due.is(call, refused ? 1 : 0, got == RoundAsk.LOST ? 1 : 0);
    }

    // ofDish, ofGuest: "UNKNOWN; OUTSIDE."
    private static void ofDishAndGuest(boolean there) {
        RoundAsk x = x(there);
        for (int which : GUESTS) {
            for (int what : WHATS) {
                int dish = !dish(there, which) ? UNKNOWN : !in(what, 2) ? OUTSIDE : NONE;
                refusal("ofDish " + which + " " + what, dish, x.ofDish(which, what));
                int guest = !guest(there, which) ? UNKNOWN : !in(what, 5) ? OUTSIDE : NONE;
                refusal("ofGuest " + which + " " + what, guest, x.ofGuest(which, what));
            }
        }
    }

    // worth: "UNKNOWN (told as -5)", ahead of -1: he may not have it
    private static void worth(boolean there) {
        RoundAsk x = x(there);
        for (int g : new int[] {-1, 0, 1, 2, 3}) {
            for (int d : DISHES) {
                for (boolean says : new boolean[] {false, true}) {
                    boolean known = guest(there, g) && dish(there, d);
                    long got = x.worth(g, d, says);
                    if (!known || g == 1 && d == 0) {
                        due.is("worth " + g + " " + d, known ? -1 : -5, got);
                    } else {
                        due.is("worth " + g + " " + d + " is told", 1, got > 0 ? 1 : 0);
                    }
                }
            }
        }
    }

    // say: "UNKNOWN; OUTSIDE; STATE: he may not have it."
    private static void say(boolean there) {
        for (int g : new int[] {-1, 0, 1, 3}) {
            for (int d : DISHES) {
                for (int v : new int[] {Integer.MIN_VALUE, -1, 0, 9, 10, Integer.MAX_VALUE}) {
                    int want = !guest(there, g) || !dish(there, d) ? UNKNOWN : !in(v, 10) ? OUTSIDE
                        : g == 1 && d == 0 ? STATE : NONE;
                    refusal("say " + g + " " + d + " " + v, want, x(there).say(g, d, v));
                }
            }
        }
    }

    // swap: "UNKNOWN."
    private static void swap(boolean there) {
        RoundAsk x = x(there);
        for (int g : GUESTS) {
            for (int h : GUESTS) {
                refusal("swap " + g + " " + h, guest(there, g) && guest(there, h) ? NONE : UNKNOWN, x.swap(g, h));
            }
        }
    }

    // step: "OUTSIDE (without a TABLE any v)."; courses: "OUTSIDE; STATE: there is no TABLE."
    private static void courses(boolean there) {
        RoundAsk x = x(there);
        for (int v : new int[] {Integer.MIN_VALUE, -1, 0, 1, 2, 3, 8, 9, Integer.MAX_VALUE}) {
            refusal("step " + v, there && (v == 1 || v == 2) ? NONE : OUTSIDE, x.step(v));
            refusal("courses " + v, v < 1 || v > 8 ? OUTSIDE : there ? NONE : STATE, x.courses(v));
        }
        refusal("dine", there ? NONE : STATE, x.dine());
        refusal("leaves", there ? NONE : STATE, x.leaves());
    }

    // gets: "UNKNOWN: GUEST, COURSE."
    private static void gets(boolean there) {
        RoundAsk x = x(there);
        for (int g : GUESTS) {
            for (int course : WHATS) {
                int want = guest(there, g) && course == 0 ? NONE : UNKNOWN;
                refusal("gets " + g + " " + course, want, x.gets(g, course));
            }
            refusal("glad " + g, guest(there, g) ? NONE : UNKNOWN, x.glad(g));
            refusal("tell " + g, guest(there, g) ? NONE : UNKNOWN, x.tell(g));
            refusal("greet " + g, guest(there, g) ? NONE : UNKNOWN, x.greet(g));
            lost("chair " + g, !guest(there, g), x.chair(g));
        }
    }

    // pays, mean: "LOST: UNKNOWN; OUTSIDE: which."
    private static void shares(boolean there) {
        RoundAsk x = x(there);
        for (int g : GUESTS) {
            for (int which : WHATS) {
                boolean refused = !guest(there, g) || !in(which, 2);
                lost("pays " + g + " " + which, refused, x.pays(g, false, which));
                lost("pays alike " + g + " " + which, refused, x.pays(g, true, which));
                lost("mean " + g + " " + which, refused, x.mean(g, which));
            }
        }
    }

    // spite, lies: "UNKNOWN; OUTSIDE."
    private static void guestAndWhat(boolean there) {
        RoundAsk x = x(there);
        for (int g : GUESTS) {
            for (int what : WHATS) {
                int want = !guest(there, g) ? UNKNOWN : !in(what, 2) ? OUTSIDE : NONE;
                refusal("spite " + g + " " + what, want, x.spite(g, what));
                refusal("lies " + g + " " + what, want, x.lies(g, what));
            }
        }
    }

    // best: "UNKNOWN: q; STATE: there is no TABLE."
    private static void best(boolean there) {
        RoundAsk x = x(there);
        for (int q : new int[] {Integer.MIN_VALUE, -2, -1, 0, 2, 3, Integer.MAX_VALUE}) {
            int want = q != -1 && !guest(there, q) ? UNKNOWN : there ? NONE : STATE;
            refusal("best " + q, want, x.best(q));
        }
    }

    // seats: "OUTSIDE: aim; UNKNOWN: q; STATE: there is no TABLE."
    private static void seats(boolean there) {
        RoundAsk x = x(there);
        for (int aim : WHATS) {
            for (int q : new int[] {Integer.MIN_VALUE, -2, -1, 0, 2, 3, Integer.MAX_VALUE}) {
                int want = !in(aim, 2) ? OUTSIDE : q != -1 && !guest(there, q) ? UNKNOWN : there ? NONE : STATE;
                refusal("seats " + aim + " " + q, want, x.seats(aim, q));
            }
        }
    }

    // ever, law: "OUTSIDE; STATE: there is no TABLE."
    private static void everAndLaw(boolean there) {
        RoundAsk x = x(there);
        for (int what : WHATS) {
            int want = !in(what, 2) ? OUTSIDE : there ? NONE : STATE;
            refusal("ever " + what, want, x.ever(what));
            refusal("law " + what, want, x.law(what));
            refusal("many " + what, in(what, 5) ? NONE : OUTSIDE, x.many(what));
        }
    }

    // as: "UNKNOWN; OUTSIDE; CAST: he is none"
    private static void as(boolean there) {
        RoundAsk x = x(there);
        for (int g : new int[] {Integer.MIN_VALUE, -1, 0, 1, 2, 3, Integer.MAX_VALUE}) {
            for (int kind : SORTS) {
                int want = !guest(there, g) ? UNKNOWN : !in(kind, 3) ? OUTSIDE : kind > g ? CAST : NONE;
                refusal("as " + g + " " + kind, want, x.as(g, kind));
                fault(x, want);
            }
        }
    }

    private static void fault(RoundAsk x, int want) {
        due.is("fault of " + want, want <= NULL && want >= SIZE ? -10 - want : 0, x.fault());
    }

    private static int size(int k) {
        return k == 0 ? 5 : k == 1 ? 3 : 0;
    }

    /** "FAULTS CAST (nothing is no CAST), NULL, SIZE: n is below 0, INDEX: not all cells are there", sort OUTSIDE. */
    private static int row(int k, int sort, int i, int n) {
        if (!in(k, 4)) {
            return UNKNOWN;
        }
        if (!in(sort, 3)) {
            return OUTSIDE;
        }
        if (k != 3 && sort != k) {
            return CAST;
        }
        if (k == 3) {
            return NULL;
        }
        if (n < 0) {
            return SIZE;
        }
        return i < 0 || (long) i + n > size(k) ? INDEX : NONE;
    }

    // table: "UNKNOWN; OUTSIDE: sort; FAULTS .."
    private static void table(boolean there) {
        for (int k : SHEETS) {
            for (int sort : SORTS) {
                RoundAsk x = x(there);
                for (int i : PLACES) {
                    for (int n : PLACES) {
                        int want = row(k, sort, i, n);
                        String call = "table " + k + " " + sort + " " + i + " " + n;
                        due.is(call, want == NONE ? -100 : want, x.table(k, sort, i, n));
                        fault(x, want);
                    }
                }
            }
        }
    }

    // judge: "UNKNOWN: SHEET; OUTSIDE: sort; FAULTS ..; OUTSIDE: n is above that; UNKNOWN: a DISH ..; STATE: there
    // is no TABLE (ahead of n)."
    private static void judge(boolean there) {
        for (int k : SHEETS) {
            for (int sort : SORTS) {
                RoundAsk x = x(there);
                for (int i : PLACES) {
                    for (int n : new int[] {Integer.MIN_VALUE, -1, 0, 1, 2, 3, 4, 5, 6, Integer.MAX_VALUE}) {
                        int want = row(k, sort, i, n);
                        if (want == NONE) {
                            want = !there ? STATE : n > 3 ? OUTSIDE : noDish(k, i, n) ? UNKNOWN : NONE;
                        }
                        refusal("judge " + k + " " + sort + " " + i + " " + n, want, x.judge(k, sort, i, n));
                        fault(x, want);
                    }
                }
            }
        }
    }

    /** Of sheet 0 the cell at 3 is no dish, of sheet 1 all. */
    private static boolean noDish(int k, int i, int n) {
        return k == 0 ? i <= 3 && i + n > 3 : n > 0;
    }

    // sheet: "UNKNOWN; OUTSIDE: sort, n above 100; SIZE."
    private static void sheet(boolean there) {
        for (int k : SHEETS) {
            for (int sort : SORTS) {
                for (int n : new int[] {Integer.MIN_VALUE, -1, 0, 100, 101, Integer.MAX_VALUE}) {
                    RoundAsk x = x(there);
                    int want = !in(k, 4) ? UNKNOWN : !in(sort, 3) || n > 100 ? OUTSIDE : n < 0 ? SIZE : NONE;
                    refusal("sheet " + k + " " + sort + " " + n, want, x.sheet(k, sort, n));
                    fault(x, want);
                }
            }
            refusal("lose " + k, in(k, 4) ? NONE : UNKNOWN, x(there).lose(k));
        }
    }

    // put: "UNKNOWN; NULL; INDEX."
    private static void put(boolean there) {
        RoundAsk x = x(there);
        for (int k : SHEETS) {
            for (int i : PLACES) {
                int want = !in(k, 4) ? UNKNOWN : k == 3 ? NULL : !in(i, size(k)) ? INDEX : NONE;
                refusal("put " + k + " " + i, want, x.put(k, i, 7));
                fault(x, want);
            }
        }
    }

    // cell: "LOST: UNKNOWN, OUTSIDE: sort; FAULTS CAST (nothing is no CAST), NULL, INDEX."
    private static void cell(boolean there) {
        RoundAsk x = x(there);
        for (int k : SHEETS) {
            for (int sort : SORTS) {
                for (int i : PLACES) {
                    int want = row(k, sort, i, 1);
                    lost("cell " + k + " " + i + " " + sort, want != NONE, x.cell(k, i, sort));
                    fault(x, want);
                }
            }
        }
    }

    // copy: "UNKNOWN; FAULTS NULL (the first, the other), CAST (unlike SORTS), INDEX: i, j, n below 0 or beyond."
    private static void copy(boolean there) {
        for (int k : SHEETS) {
            for (int other : SHEETS) {
                RoundAsk x = x(there);
                for (int i : PLACES) {
                    int j = i == 5 ? 4 : 0;
                    for (int n : new int[] {Integer.MIN_VALUE, -1, 0, 1, 6, Integer.MAX_VALUE}) {
                        int want = copied(k, i, other, j, n);
                        String call = "copy " + k + " " + i + " " + other + " " + j + " " + n;
                        refusal(call, want, x.copy(k, i, other, j, n));
                        fault(x, want);
                    }
                }
            }
        }
    }

    private static int copied(int k, int i, int other, int j, int n) {
        if (!in(k, 4) || !in(other, 4)) {
            return UNKNOWN;
        }
        if (k == 3 || other == 3) {
            return NULL;
        }
        if (k != other) {
            return CAST;
        }
        return i < 0 || n < 0 || (long) i + n > size(k) || (long) j + n > size(other) ? INDEX : NONE;
    }
}

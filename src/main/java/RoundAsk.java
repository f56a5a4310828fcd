import java.util.Arrays;

/** A round of guests, each of whom asks for the one some seats on; see README.md. */
public final class RoundAsk {
    public static final int UNKNOWN = -1, OUTSIDE = -2, STATE = -3, FULL = -4, NONE = -9;
    public static final long LOST = Long.MIN_VALUE;

    private static final int MOST_DISHES = 6;
    private static final int MOST_GUESTS = 7;
    private static final int MOST_COURSES = 8;
    private static final int NO_GUEST = -1;
    private static final int NOT_HIS = -1;
    private static final int NEVER = -8;
    private static final int KIND = 0, CHEAP = 1, PAYER = 2;
    // A payer who is not content asks in this manner; the others ask in the manner of their kind.
    private static final int IN_SPITE = 2;
    private static final int NULL = 1, CAST = 2, INDEX = 3, SIZE = 4;
    private static final int SHEETS = 4;
    private static final int MOST_CELLS = 100;
    private static final int BYTES = 0, SHORTS = 1, INTS = 2;
    private static final int SPITE_EVENINGS = 200;

    private final Sheet[] sheets = new Sheet[SHEETS];
    private Told told = new Told();
    private Told draft = new Told();
    private final Table now = new Table();
    private final Table trial = new Table();
    private final Table twin = new Table();
    private final Ever ever = new Ever();
    private final Ever otherwise = new Ever();
    private final Best best = new Best();
    private final Seating seating = new Seating();
    private int evenings;
    private int traced;
    private int lastFault;

    public RoundAsk() {
        for (int k = 0; k < SHEETS; k++) {
            sheets[k] = new Sheet();
        }
    }

    // ---- 1 the table

    public int table(int sheet, int sort, int i, int n) {
        int refusal = refusalOfRow(sheet, sort, i, n);
        if (refusal != 0) {
            return refusal;
        }
        if (!draft.isRead(sheets[sheet], i, n)) {
            return -100 - draft.place();
        }
        // The text that is read only now takes the place of the old one, so a fault changes nothing.
        Told old = told;
        told = draft;
        draft = old;
        now.begin(told);
        evenings = 0;
        unsettle();
        return told.guests;
    }

    public int ofDish(int d, int what) {
        if (!isDish(d)) {
            return UNKNOWN;
        }
        switch (what) {
            case 0: return told.howMany[d];
            case 1: return told.price[d];
            default: return OUTSIDE;
        }
    }

    public int ofGuest(int g, int what) {
        if (!isGuest(g)) {
            return UNKNOWN;
        }
        switch (what) {
            case 0: return told.kind[g];
            case 1: return told.kin[g];
            case 2: return told.content[g];
            case 3: return now.seatOf(g);
            case 4: return now.last[g];
            default: return OUTSIDE;
        }
    }

    public int worth(int g, int d, boolean says) {
        if (!isGuest(g) || !isDish(d)) {
            return -5;
        }
        return says ? now.says[g][d] : told.worth[g][d];
    }

    public int say(int g, int d, int v) {
        if (!isGuest(g) || !isDish(d)) {
            return UNKNOWN;
        }
        if (v < 0 || v > 9) {
            return OUTSIDE;
        }
        if (!told.mayHave(g, d)) {
            return STATE;
        }
        int said = now.says[g][d];
        now.says[g][d] = v;
        unsettle();
        return said;
    }

    public int swap(int g, int h) {
        if (!isGuest(g) || !isGuest(h)) {
            return UNKNOWN;
        }
        int seat = now.seatOf(g);
        int other = now.seatOf(h);
        now.order[seat] = h;
        now.order[other] = g;
        unsettle();
        return 1;
    }

    public int step(int v) {
        if (v < 1 || v > told.guests - 1) {
            return OUTSIDE;
        }
        int was = now.step;
        now.step = v;
        unsettle();
        return was;
    }

    public int courses(int v) {
        if (v < 1 || v > MOST_COURSES) {
            return OUTSIDE;
        }
        if (!isTable()) {
            return STATE;
        }
        int were = now.courses;
        now.courses = v;
        unsettle();
        return were;
    }

    // ---- 2 evenings

    public int dine() {
        if (!isTable()) {
            return STATE;
        }
        now.evening();
        evenings++;
        return now.gladInAll();
    }

    public int forget() {
        int remembered = 0;
        for (int g = 0; g < told.guests; g++) {
            if (now.last[g] != NEVER) {
                remembered++;
            }
        }
        now.clearMemory();
        return remembered;
    }

    public int gets(int g, int course) {
        if (!isGuest(g) || course < 0 || course >= now.courses) {
            return UNKNOWN;
        }
        tryEvening();
        return trial.got[course][g];
    }

    public int glad(int g) {
        if (!isGuest(g)) {
            return UNKNOWN;
        }
        tryEvening();
        return trial.glad[g];
    }

    public long pays(int g, boolean alike, int which) {
        if (!isGuest(g) || !isOneOfTwo(which)) {
            return LOST;
        }
        tryEvening();
        return alike ? share(trial.paidInAll(), told.guests, which) : share(trial.paid[g], 1, which);
    }

    // ---- 3 told, best, seats

    public int judge(int sheet, int sort, int i, int n) {
        int refusal = refusalOfRow(sheet, sort, i, n);
        if (refusal != 0) {
            return refusal;
        }
        if (!isTable()) {
            return STATE;
        }
        if (n > now.courses * told.guests) {
            return OUTSIDE;
        }
        int[] cells = sheets[sheet].cells;
        for (int k = i; k < i + n; k++) {
            if (cells[k] != NONE && !isDish(cells[k])) {
                return UNKNOWN;
            }
        }
        return firstThatCannotBe(cells, i, n);
    }

    public int best(int q) {
        if (q < -1 || q >= told.guests) {
            return UNKNOWN;
        }
        if (!isTable()) {
            return STATE;
        }
        if (!best.known) {
            best.find(now);
        }
        return q == -1 ? best.gladInAll() : best.dishOf(q);
    }

    public int seats(int aim, int q) {
        if (aim < 0 || aim >= Seating.AIMS) {
            return OUTSIDE;
        }
        if (q < -1 || q >= told.guests) {
            return UNKNOWN;
        }
        if (!isTable()) {
            return STATE;
        }
        if (!seating.known) {
            trial.become(now);
            seating.find(trial);
        }
        return q == -1 ? seating.most[aim] : seating.rows[aim][q];
    }

    // ---- 4 ever

    public int ever(int what) {
        if (!isOneOfTwo(what)) {
            return OUTSIDE;
        }
        if (!isTable()) {
            return STATE;
        }
        walkOn();
        return what == 0 ? ever.tail : ever.ring;
    }

    public long mean(int g, int which) {
        if (!isGuest(g) || !isOneOfTwo(which)) {
            return LOST;
        }
        walkOn();
        return share(ever.glad[g], ever.ring, which);
    }

    public int leaves() {
        if (!isTable()) {
            return STATE;
        }
        walkOn();
        int set = 0;
        for (int g = 0; g < told.guests; g++) {
            for (int kind = KIND; kind <= PAYER; kind++) {
                if (kind != told.kind[g]) {
                    trial.become(now);
                    trial.kind[g] = kind;
                    otherwise.walk(trial);
                    set |= isGladderOtherwise(g) ? 1 << g : 0;
                }
            }
        }
        return set;
    }

    public int spite(int g, int what) {
        if (!isGuest(g)) {
            return UNKNOWN;
        }
        if (!isOneOfTwo(what)) {
            return OUTSIDE;
        }
        trial.become(now);
        twin.become(now);
        twin.spiteful = g;
        int back = NONE;
        for (int e = 0; e < SPITE_EVENINGS; e++) {
            trial.evening();
            twin.evening();
            if (back == NONE) {
                back = firstWorse(g, e);
            }
            // From equal memories on both go the same way: nothing can come back any more.
            if (trial.memory() == twin.memory()) {
                return what == 0 ? e + 1 : back;
            }
        }
        return what == 0 ? NONE : back;
    }

    // ---- 5 lies, chairs, laws

    public int lies(int g, int what) {
        if (!isGuest(g)) {
            return UNKNOWN;
        }
        if (!isOneOfTwo(what)) {
            return OUTSIDE;
        }
        tryEvening();
        int most = trial.glad[g];
        int lie = NONE;
        for (int d = 0; d < told.dishes; d++) {
            if (told.mayHave(g, d)) {
                trial.become(now);
                trial.sayOnly(g, d);
                trial.evening();
                if (trial.glad[g] > most) {
                    most = trial.glad[g];
                    lie = d;
                }
            }
        }
        return what == 0 ? lie : most;
    }

    public long chair(int g) {
        if (!isGuest(g) || told.guests < 3 || now.step >= told.guests - 1) {
            return LOST;
        }
        tryEvening();
        int with = trial.gladInAll() - trial.glad[g];
        trial.become(now);
        trial.takeAway(g);
        trial.evening();
        return trial.gladInAll() - with;
    }

    public int law(int what) {
        if (!isOneOfTwo(what)) {
            return OUTSIDE;
        }
        if (!isTable()) {
            return STATE;
        }
        int most = -1;
        int by = 0;
        for (int v = 1; v < told.guests; v++) {
            trial.become(now);
            trial.step = v;
            trial.evening();
            int glad = trial.gladInAll();
            if (glad > most) {
                most = glad;
                by = v;
            }
        }
        return what == 0 ? by : most;
    }

    // ---- 6 sheets, parts

    public int sheet(int k, int sort, int n) {
        lastFault = 0;
        if (!isSheet(k)) {
            return UNKNOWN;
        }
        if (!isSort(sort) || n > MOST_CELLS) {
            return OUTSIDE;
        }
        if (n < 0) {
            return faulty(SIZE);
        }
        sheets[k].renew(sort, n);
        return 1;
    }

    public int lose(int k) {
        if (!isSheet(k)) {
            return UNKNOWN;
        }
        if (!sheets[k].there) {
            return 0;
        }
        sheets[k].there = false;
        return 1;
    }

    public int put(int k, int i, int v) {
        lastFault = 0;
        if (!isSheet(k)) {
            return UNKNOWN;
        }
        if (!sheets[k].there) {
            return faulty(NULL);
        }
        if (!sheets[k].holds(i, 1)) {
            return faulty(INDEX);
        }
        sheets[k].write(i, v);
        return 1;
    }

    public long cell(int k, int i, int sort) {
        int refusal = refusalOfRow(k, sort, i, 1);
        return refusal != 0 ? LOST : sheets[k].cells[i];
    }

    public int copy(int k, int i, int other, int j, int n) {
        lastFault = 0;
        if (!isSheet(k) || !isSheet(other)) {
            return UNKNOWN;
        }
        Sheet from = sheets[k];
        Sheet to = sheets[other];
        if (!from.there || !to.there) {
            return faulty(NULL);
        }
        if (from.sort != to.sort) {
            return faulty(CAST);
        }
        if (!from.holds(i, n) || !to.holds(j, n)) {
            return faulty(INDEX);
        }
        System.arraycopy(from.cells, i, to.cells, j, n);
        return n;
    }

    public int tell(int g) {
        if (!isGuest(g)) {
            return UNKNOWN;
        }
        switch (told.kind[g]) {
            case PAYER: return payerTells(g);
            case CHEAP: return cheapTells(g);
            default: return kindTells(g);
        }
    }

    public int greet(int g) {
        if (!isGuest(g)) {
            return UNKNOWN;
        }
        if (told.kind[g] == PAYER) {
            leaveNumber(5);
            return 70;
        }
        leaveNumber(4);
        return g;
    }

    public int as(int g, int kind) {
        lastFault = 0;
        if (!isGuest(g)) {
            return UNKNOWN;
        }
        if (kind < KIND || kind > PAYER) {
            return OUTSIDE;
        }
        // The kinds stand in a line, each one a sort of the one ahead of it.
        return kind > told.kind[g] ? faulty(CAST) : 1;
    }

    public int trace() {
        return traced;
    }

    public int fault() {
        return lastFault;
    }

    public int many(int what) {
        switch (what) {
            case 0: return told.guests;
            case 1: return told.dishes;
            case 2: return now.step;
            case 3: return now.courses;
            case 4: return evenings;
            default: return OUTSIDE;
        }
    }

    private boolean isTable() {
        return told.guests > 0;
    }

    private boolean isGuest(int g) {
        return g >= 0 && g < told.guests;
    }

    private boolean isDish(int d) {
        return d >= 0 && d < told.dishes;
    }

    private static boolean isSheet(int k) {
        return k >= 0 && k < SHEETS;
    }

    private static boolean isSort(int sort) {
        return sort >= BYTES && sort <= INTS;
    }

    private static boolean isOneOfTwo(int which) {
        return which == 0 || which == 1;
    }

    private int faulty(int kind) {
        lastFault = kind;
        return -10 - kind;
    }

    /** The answer of a call that can't have n cells of a sheet, as a row of a sort; 0 if it can. */
    private int refusalOfRow(int k, int sort, int i, int n) {
        lastFault = 0;
        if (!isSheet(k)) {
            return UNKNOWN;
        }
        if (!isSort(sort)) {
            return OUTSIDE;
        }
        if (!sheets[k].there) {
            return faulty(NULL);
        }
        if (sheets[k].sort != sort) {
            return faulty(CAST);
        }
        if (n < 0) {
            return faulty(SIZE);
        }
        return sheets[k].holds(i, n) ? 0 : faulty(INDEX);
    }

    /** What was found for the table as it was holds no longer. */
    private void unsettle() {
        best.known = false;
        seating.known = false;
    }

    private void tryEvening() {
        trial.become(now);
        trial.evening();
    }

    private void walkOn() {
        trial.become(now);
        ever.walk(trial);
    }

    private boolean isGladderOtherwise(int g) {
        return otherwise.glad[g] * (long) ever.ring > ever.glad[g] * (long) otherwise.ring;
    }

    /** The first course of an evening in which the twin gives a guest what is worth less to him. */
    private int firstWorse(int g, int evening) {
        for (int c = 0; c < now.courses; c++) {
            if (told.truly(g, twin.got[c][g]) < told.truly(g, trial.got[c][g])) {
                return evening * now.courses + c;
            }
        }
        return NONE;
    }

    private int firstThatCannotBe(int[] cells, int i, int n) {
        trial.become(now);
        trial.layOut();
        for (int k = 0; k < n; k++) {
            int dish = cells[i + k];
            int target = trial.askedFor(k % told.guests);
            if (dish == NONE ? trial.isAnyFor(target) : !trial.isFor(target, dish)) {
                return k;
            }
            if (dish != NONE) {
                trial.left[dish]--;
            }
        }
        return NONE;
    }

    /** The upper or the lower number of a share in least terms; a lower one is above 0. */
    private static long share(int upper, int lower, int which) {
        int common = 1;
        for (int d = lower; d > 1 && common == 1; d--) {
            if (upper % d == 0 && lower % d == 0) {
                common = d;
            }
        }
        return which == 0 ? upper / common : lower / common;
    }

    private void leaveNumber(int body) {
        traced = 31 * traced + body;
    }

    private int kindTells(int g) {
        leaveNumber(1);
        return told.kin[g];
    }

    private int cheapTells(int g) {
        leaveNumber(2);
        return kindTells(g) + 100;
    }

    private int payerTells(int g) {
        leaveNumber(3);
        int asCheap = cheapTells(g);
        return asCheap + kindTells(g);
    }

    /** A row of numbers of a sort, or nothing; its cells are made once and used again. */
    private static final class Sheet {
        final int[] cells = new int[MOST_CELLS];
        boolean there;
        int sort;
        int size;

        void renew(int newSort, int n) {
            there = true;
            sort = newSort;
            size = n;
            Arrays.fill(cells, 0);
        }

        /** Whether n cells from i on are there (with none of them i must still be a place or the end). */
        boolean holds(int i, int n) {
            return i >= 0 && i <= size && n >= 0 && n <= size - i;
        }

        void write(int i, int v) {
            switch (sort) {
                case BYTES: cells[i] = (byte) v; break;
                case SHORTS: cells[i] = (short) v; break;
                default: cells[i] = v;
            }
        }
    }

    /** What a text tells of a table, and how far it was read. */
    private static final class Told {
        final int[] howMany = new int[MOST_DISHES];
        final int[] price = new int[MOST_DISHES];
        final int[] kind = new int[MOST_GUESTS];
        final int[] kin = new int[MOST_GUESTS];
        final int[] content = new int[MOST_GUESTS];
        final int[][] worth = new int[MOST_GUESTS][MOST_DISHES];
        int dishes;
        int guests;
        private int begin;
        private int end;
        private int at;

        boolean isRead(Sheet text, int i, int n) {
            begin = i;
            end = i + n;
            at = i;
            guests = 0;
            return isSign(text, 'd') && areDishesRead(text) && areGuestsRead(text);
        }

        /** Where the reading stopped: the first code that can't be, or the end of a text too short. */
        int place() {
            return at - begin;
        }

        boolean mayHave(int g, int d) {
            return worth[g][d] != NOT_HIS;
        }

        /** What a dish that he may have, or nothing, is truly worth to a guest. */
        int truly(int g, int dish) {
            return dish < 0 ? 0 : worth[g][dish];
        }

        private boolean areDishesRead(Sheet text) {
            dishes = digit(text, 2, MOST_DISHES);
            for (int d = 0; d < dishes; d++) {
                howMany[d] = digit(text, 1, 9);
                if (howMany[d] < 0) {
                    return false;
                }
                price[d] = digit(text, 0, 9);
                if (price[d] < 0) {
                    return false;
                }
            }
            return dishes > 0;
        }

        private boolean areGuestsRead(Sheet text) {
            for (int g = 0; g < MOST_GUESTS && at < end; g++) {
                if (!isGuestRead(text, g)) {
                    return false;
                }
                guests = g + 1;
            }
            return guests >= 2 && at == end;
        }

        private boolean isGuestRead(Sheet text, int g) {
            if (!isSign(text, ';')) {
                return false;
            }
            kind[g] = kindOfLetter(text);
            if (kind[g] < 0) {
                return false;
            }
            kin[g] = digit(text, 0, 9);
            if (kin[g] < 0) {
                return false;
            }
            content[g] = kind[g] == PAYER ? digit(text, 0, 9) : 0;
            return content[g] >= 0 && isWorthRead(text, g);
        }

        private int kindOfLetter(Sheet text) {
            if (isSign(text, 'k')) {
                return KIND;
            }
            if (isSign(text, 'c')) {
                return CHEAP;
            }
            return isSign(text, 'p') ? PAYER : -1;
        }

        private boolean isWorthRead(Sheet text, int g) {
            boolean any = false;
            for (int d = 0; d < dishes; d++) {
                worth[g][d] = digit(text, 0, 9);
                if (worth[g][d] >= 0) {
                    any = true;
                } else if (d == dishes - 1 && !any || !isSign(text, 'x')) {
                    return false;
                } else {
                    worth[g][d] = NOT_HIS;
                }
            }
            return true;
        }

        private boolean isSign(Sheet text, char sign) {
            if (at >= end || text.cells[at] != sign) {
                return false;
            }
            at++;
            return true;
        }

        /** The next digit, if it is one of low .. high; else -1, and the reading stays where it is. */
        private int digit(Sheet text, int low, int high) {
            if (at >= end || text.cells[at] < '0' + low || text.cells[at] > '0' + high) {
                return -1;
            }
            return text.cells[at++] - '0';
        }
    }

    /** Guests in their seats and what they remember, and the evening that they have last had so. */
    private static final class Table {
        Told told = new Told();
        final int[] order = new int[MOST_GUESTS];
        final int[] kind = new int[MOST_GUESTS];
        final int[] last = new int[MOST_GUESTS];
        final int[][] says = new int[MOST_GUESTS][MOST_DISHES];
        int seats;
        int step;
        int courses;
        int spiteful = NO_GUEST;
        final int[] left = new int[MOST_DISHES];
        final int[][] got = new int[MOST_COURSES][MOST_GUESTS];
        final int[] glad = new int[MOST_GUESTS];
        final int[] paid = new int[MOST_GUESTS];

        void begin(Told text) {
            told = text;
            seats = text.guests;
            step = 1;
            courses = 1;
            spiteful = NO_GUEST;
            for (int g = 0; g < seats; g++) {
                order[g] = g;
                kind[g] = text.kind[g];
                System.arraycopy(text.worth[g], 0, says[g], 0, MOST_DISHES);
            }
            clearMemory();
        }

        void become(Table other) {
            told = other.told;
            seats = other.seats;
            step = other.step;
            courses = other.courses;
            spiteful = other.spiteful;
            System.arraycopy(other.order, 0, order, 0, MOST_GUESTS);
            System.arraycopy(other.kind, 0, kind, 0, MOST_GUESTS);
            System.arraycopy(other.last, 0, last, 0, MOST_GUESTS);
            for (int g = 0; g < told.guests; g++) {
                System.arraycopy(other.says[g], 0, says[g], 0, MOST_DISHES);
            }
        }

        void clearMemory() {
            Arrays.fill(last, NEVER);
        }

        void sayOnly(int g, int dish) {
            for (int d = 0; d < told.dishes; d++) {
                if (told.mayHave(g, d)) {
                    says[g][d] = d == dish ? 9 : 0;
                }
            }
        }

        void takeAway(int g) {
            for (int s = seatOf(g); s < seats - 1; s++) {
                order[s] = order[s + 1];
            }
            seats--;
        }

        int seatOf(int g) {
            int seat = 0;
            for (int s = 0; s < seats; s++) {
                if (order[s] == g) {
                    seat = s;
                }
            }
            return seat;
        }

        /** For whom the one in a seat asks. */
        int askedFor(int seat) {
            return seats > 0 ? order[(seat + step) % seats] : 0;
        }

        void layOut() {
            System.arraycopy(told.howMany, 0, left, 0, MOST_DISHES);
        }

        boolean isFor(int g, int d) {
            return left[d] > 0 && told.mayHave(g, d);
        }

        boolean isAnyFor(int g) {
            boolean any = false;
            for (int d = 0; d < told.dishes; d++) {
                any = any || isFor(g, d);
            }
            return any;
        }

        void evening() {
            layOut();
            Arrays.fill(glad, 0);
            Arrays.fill(paid, 0);
            for (int c = 0; c < courses; c++) {
                for (int s = 0; s < seats; s++) {
                    ask(c, order[s], askedFor(s));
                }
                spiteful = NO_GUEST;
            }
        }

        private void ask(int course, int asker, int target) {
            int dish = wish(mannerOf(asker), target);
            got[course][target] = dish;
            last[target] = dish;
            if (dish >= 0) {
                int worth = told.worth[target][dish];
                left[dish]--;
                glad[target] += 10 * worth;
                glad[asker] += told.kin[asker] * worth;
                paid[asker] += told.price[dish];
            }
        }

        private int mannerOf(int g) {
            if (g == spiteful) {
                return IN_SPITE;
            }
            if (kind[g] != PAYER) {
                return kind[g];
            }
            boolean content = last[g] == NEVER || told.truly(g, last[g]) >= told.content[g];
            return content ? KIND : IN_SPITE;
        }

        /** The dish that is asked for in a manner, or nothing. */
        private int wish(int manner, int target) {
            // Worth and price are 0 .. 9: of the two the one that counts tenfold decides first.
            int byWorth = manner == KIND ? -10 : manner == CHEAP ? -1 : 10;
            int byPrice = manner == CHEAP ? 10 : 1;
            int[] worth = says[target];
            int dish = NONE;
            int least = 0;
            for (int d = 0; d < told.dishes; d++) {
                if (left[d] > 0 && worth[d] != NOT_HIS) {
                    int rank = byWorth * worth[d] + byPrice * told.price[d];
                    if (dish == NONE || rank < least) {
                        dish = d;
                        least = rank;
                    }
                }
            }
            return dish;
        }

        /** What all remember, as one number (of each guest three bits: a dish, nothing, or never). */
        int memory() {
            int all = 0;
            for (int g = 0; g < told.guests; g++) {
                int one = last[g] == NEVER ? 7 : last[g] < 0 ? 6 : last[g];
                all = all << 3 | one;
            }
            return all;
        }

        int gladInAll() {
            return sum(glad);
        }

        int paidInAll() {
            return sum(paid);
        }

        int gladOfLeast() {
            int least = glad[0];
            for (int g = 1; g < told.guests; g++) {
                least = Math.min(least, glad[g]);
            }
            return least;
        }

        private int sum(int[] row) {
            int all = 0;
            for (int g = 0; g < told.guests; g++) {
                all += row[g];
            }
            return all;
        }
    }

    /** Evenings one after another till what is remembered comes again. */
    private static final class Ever {
        // An evening goes by which payers are not content as it begins (128 sets at most), so after
        // the first one a memory comes again within 129 evenings.
        private static final int LONGEST = 200;

        final int[] glad = new int[MOST_GUESTS];
        private final int[] memories = new int[LONGEST + 1];
        int tail;
        int ring = 1;

        void walk(Table table) {
            findRing(table);
            Arrays.fill(glad, 0);
            for (int e = 0; e < ring; e++) {
                table.evening();
                for (int g = 0; g < MOST_GUESTS; g++) {
                    glad[g] += table.glad[g];
                }
            }
        }

        private void findRing(Table table) {
            tail = 0;
            ring = 1;
            memories[0] = table.memory();
            for (int e = 1; e <= LONGEST; e++) {
                table.evening();
                memories[e] = table.memory();
                int earlier = placeBefore(e);
                if (earlier < e) {
                    tail = earlier;
                    ring = e - earlier;
                    return;
                }
            }
        }

        private int placeBefore(int e) {
            int place = 0;
            while (place < e && memories[place] != memories[e]) {
                place++;
            }
            return place;
        }
    }

    /** What guests get so that all are the gladdest of one course. */
    private static final class Best {
        private static final long ROWS = 10_000_000L;

        boolean known;
        // By the set of guests who have got a dish: gladness times ROWS, and behind it a digit of
        // each guest that is the greater the sooner his dish comes: of the greatest sums of
        // gladness the greatest number has the first row, and the number tells the row, too.
        private final long[] most = new long[1 << MOST_GUESTS];
        private final long[] gain = new long[MOST_GUESTS];
        private final int[] weight = new int[MOST_GUESTS];
        private long greatest;

        void find(Table table) {
            weigh(table);
            Arrays.fill(most, -1);
            most[0] = 0;
            for (int d = 0; d < table.told.dishes; d++) {
                reckonGains(table.told, d);
                int portions = Math.min(table.told.howMany[d], table.told.guests);
                for (int p = 0; p < portions; p++) {
                    serve(table.told.guests);
                }
            }
            greatest = 0;
            for (int set = 0; set < most.length; set++) {
                greatest = Math.max(greatest, most[set]);
            }
            known = true;
        }

        int gladInAll() {
            return (int) (greatest / ROWS);
        }

        int dishOf(int g) {
            int digit = (int) (greatest / unit(g) % 10);
            return digit == 0 ? NONE : 9 - digit;
        }

        /** How much what a guest gets counts: ten times for himself, and kin of who asks for him. */
        private void weigh(Table table) {
            for (int s = 0; s < table.seats; s++) {
                weight[table.askedFor(s)] = 10 + table.told.kin[table.order[s]];
            }
        }

        private void reckonGains(Told told, int d) {
            for (int g = 0; g < told.guests; g++) {
                long glad = weight[g] * told.worth[g][d];
                gain[g] = told.mayHave(g, d) ? glad * ROWS + (9 - d) * unit(g) : -1;
            }
        }

        /** One more portion goes to one guest at most; greater sets first, so that it goes but once. */
        private void serve(int guests) {
            for (int set = (1 << guests) - 1; set > 0; set--) {
                for (int g = 0; g < guests; g++) {
                    int without = set & ~(1 << g);
                    if (without != set && gain[g] >= 0 && most[without] >= 0) {
                        most[set] = Math.max(most[set], most[without] + gain[g]);
                    }
                }
            }
        }

        private static long unit(int g) {
            long unit = 1;
            for (int k = g; k < MOST_GUESTS - 1; k++) {
                unit *= 10;
            }
            return unit;
        }
    }

    /** Who should sit where, by each aim. */
    private static final class Seating {
        static final int AIMS = 2;
        private static final int MOST_ROWS = 720;

        boolean known;
        final int[] most = new int[AIMS];
        final int[][] rows = new int[AIMS][MOST_GUESTS];

        void find(Table table) {
            Arrays.fill(most, -1);
            for (int g = 0; g < table.seats; g++) {
                table.order[g] = g;
            }
            boolean more = true;
            for (int k = 0; k < MOST_ROWS && more; k++) {
                table.clearMemory();
                table.evening();
                weigh(0, table.gladInAll(), table.order);
                weigh(1, table.gladOfLeast(), table.order);
                more = isNextRow(table.order, table.seats);
            }
            known = true;
        }

        private void weigh(int aim, int comesTo, int[] order) {
            if (comesTo > most[aim]) {
                most[aim] = comesTo;
                System.arraycopy(order, 0, rows[aim], 0, MOST_GUESTS);
            }
        }

        /** Makes of a row the next one, place 0 left as it is; false: it was the last. */
        private static boolean isNextRow(int[] row, int n) {
            int i = n - 2;
            while (i > 0 && row[i] > row[i + 1]) {
                i--;
            }
            if (i <= 0) {
                return false;
            }
            int j = n - 1;
            while (j > i + 1 && row[j] < row[i]) {
                j--;
            }
            exchange(row, i, j);
            for (int a = i + 1, b = n - 1; a < b; a++, b--) {
                exchange(row, a, b);
            }
            return true;
        }

        private static void exchange(int[] row, int i, int j) {
            int kept = row[i];
            row[i] = row[j];
            row[j] = kept;
        }
    }
}

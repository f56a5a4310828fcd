import java.math.BigInteger;
import java.util.ArrayList;
import java.util.Arrays;
import java.util.Comparator;
import java.util.HashMap;
import java.util.List;
import java.util.Map;
import java.util.regex.Matcher;
import java.util.regex.Pattern;

/**
 * The document once more, in the plainest and slowest way, for the test to hold the class against:
 * all rows are tried, memories are kept whole, and faults are the machine's own.
 */
final class Model {
    private static final long LOST = Long.MIN_VALUE;
    private static final Integer NOTHING = -9;

    record Dish(int number, int howMany, int price) { }

    record Guest(int number, int kind, int kin, int content, List<Integer> worth) { }

    /** All on which an evening hangs; memory holds null where nothing is remembered. */
    record Setting(List<Dish> dishes, List<Guest> guests, List<Integer> order, int step, int courses,
            List<List<Integer>> says, List<Integer> memory, Integer spiteful) {
        Setting with(List<Integer> newMemory) {
            return new Setting(dishes, guests, order, step, courses, says, newMemory, null);
        }
        Setting seated(List<Integer> newOrder, int newStep) {
            return new Setting(dishes, guests, newOrder, newStep, courses, says, memory, null);
        }
        Setting saying(List<List<Integer>> newSays) {
            return new Setting(dishes, guests, order, step, courses, newSays, memory, null);
        }
        Setting among(List<Guest> newGuests) {
            return new Setting(dishes, newGuests, order, step, courses, says, memory, null);
        }
        Setting spited(int g) {
            return new Setting(dishes, guests, order, step, courses, says, memory, g);
        }
    }

    /** What became of an evening. */
    static final class Gone {
        final List<Map<Integer, Integer>> got = new ArrayList<>();
        final int[] glad = new int[7];
        final int[] paid = new int[7];
        List<Integer> memory;

        int all() {
            return Arrays.stream(glad).sum();
        }
    }

    private Setting now;
    private int evenings;
    private int trace;
    private int fault;
    private final Object[] sheets = new Object[4];

    Model() {
        now = new Setting(List.of(), List.of(), List.of(), 0, 0, List.of(), List.of(), null);
    }

    // ---- the evening

    static int truly(Guest g, Integer dish) {
        return dish < 0 ? 0 : g.worth().get(dish);
    }

    static Gone evening(Setting s) {
        Gone gone = new Gone();
        List<Integer> bowl = new ArrayList<>();
        s.dishes().forEach(d -> {
            for (int k = 0; k < d.howMany(); k++) {
                bowl.add(d.number());
            }
        });
        List<Integer> memory = new ArrayList<>(s.memory());
        for (int c = 0; c < s.courses(); c++) {
            Map<Integer, Integer> got = new HashMap<>();
            for (int seat = 0; seat < s.order().size(); seat++) {
                Guest asker = s.guests().get(s.order().get(seat));
                int to = s.order().get((seat + s.step()) % s.order().size());
                Guest target = s.guests().get(to);
                boolean spite = c == 0 && s.spiteful() != null && s.spiteful() == asker.number();
                Integer last = memory.get(asker.number());
                boolean unhappy = asker.kind() == 2 && last != null && truly(asker, last) < asker.content();
                Comparator<Dish> price = Comparator.comparingInt(Dish::price);
                Comparator<Dish> worth = Comparator.comparingInt(d -> s.says().get(to).get(d.number()));
                Comparator<Dish> manner;
                if (spite || unhappy) {
                    manner = worth.thenComparing(price).thenComparing(worth.reversed());
                } else if (asker.kind() == 1) {
                    manner = price.thenComparing(worth.reversed());
                } else {
                    manner = worth.reversed().thenComparing(price);
                }
                Integer dish = s.dishes().stream()
                    .filter(d -> bowl.contains(d.number()) && target.worth().get(d.number()) >= 0)
                    .sorted(manner.thenComparingInt(Dish::number))
                    .map(Dish::number).findFirst().orElse(NOTHING);
                bowl.remove(dish);
                got.put(to, dish);
                memory.set(to, dish);
                gone.glad[to] += 10 * truly(target, dish);
                gone.glad[asker.number()] += asker.kin() * truly(target, dish);
                gone.paid[asker.number()] += dish < 0 ? 0 : s.dishes().get(dish).price();
            }
            gone.got.add(got);
        }
        gone.memory = memory;
        return gone;
    }

    private Gone next() {
        return evening(now);
    }

    // ---- 1

    private static boolean goesOn(String prefix, boolean whole) {
        for (int m = 2; m <= 6; m++) {
            StringBuilder signs = new StringBuilder();
            for (int first = 0; first < m; first++) {
                signs.append(first > 0 ? "|" : "").append("x".repeat(first)).append("[0-9]")
                    .append("[0-9x]".repeat(m - 1 - first));
            }
            String guest = ";(?:[kc][0-9]|p[0-9][0-9])(?:" + signs + ")";
            Matcher matcher = Pattern.compile("d" + m + "(?:[1-9][0-9]){" + m + "}(?:" + guest + "){2,7}").matcher(prefix);
            if (matcher.matches() || !whole && matcher.hitEnd()) {
                return true;
            }
        }
        return false;
    }

    private int refusedRow(int sheet, int sort, int i, int n) {
        fault = 0;
        if (sheet < 0 || sheet > 3) {
            return -1;
        }
        if (sort < 0 || sort > 2) {
            return -2;
        }
        try {
            Object row = sheets[sheet];
            int length = switch (sort) {
                case 0 -> ((byte[]) row).length;
                case 1 -> ((short[]) row).length;
                default -> ((int[]) row).length;
            };
            int[] taken = new int[n];
            if ((long) i + taken.length > length || i < 0) {
                throw new IndexOutOfBoundsException();
            }
            return 0;
        } catch (ClassCastException e) {
            return fault(2);
        } catch (NullPointerException e) {
            return fault(1);
        } catch (NegativeArraySizeException e) {
            return fault(4);
        } catch (IndexOutOfBoundsException e) {
            return fault(3);
        } catch (OutOfMemoryError e) {
            return fault(3);
        }
    }

    private int fault(int kind) {
        fault = kind;
        return -10 - kind;
    }

    private int at(int sheet, int i) {
        Object row = sheets[sheet];
        return row instanceof byte[] b ? b[i] : row instanceof short[] s ? s[i] : ((int[]) row)[i];
    }

    int table(int sheet, int sort, int i, int n) {
        int refused = refusedRow(sheet, sort, i, n);
        if (refused != 0) {
            return refused;
        }
        StringBuilder text = new StringBuilder();
        for (int k = 0; k < n; k++) {
            int code = at(sheet, i + k);
            text.append(code > 31 && code < 127 ? (char) code : '?');
        }
        if (!goesOn(text.toString(), true)) {
            int place = 0;
            while (place < n && goesOn(text.substring(0, place + 1), false)) {
                place++;
            }
            return -100 - place;
        }
        String[] parts = text.toString().split(";");
        List<Dish> dishes = new ArrayList<>();
        for (int d = 0; d < parts[0].charAt(1) - '0'; d++) {
            dishes.add(new Dish(d, parts[0].charAt(2 + 2 * d) - '0', parts[0].charAt(3 + 2 * d) - '0'));
        }
        List<Guest> guests = new ArrayList<>();
        List<Integer> order = new ArrayList<>();
        List<List<Integer>> says = new ArrayList<>();
        List<Integer> memory = new ArrayList<>();
        for (int g = 0; g < parts.length - 1; g++) {
            String part = parts[g + 1];
            int kind = "kcp".indexOf(part.charAt(0));
            List<Integer> worth = new ArrayList<>();
            part.substring(kind == 2 ? 3 : 2).chars().forEach(c -> worth.add(c == 'x' ? -1 : c - '0'));
            guests.add(new Guest(g, kind, part.charAt(1) - '0', kind == 2 ? part.charAt(2) - '0' : 0, worth));
            order.add(g);
            says.add(new ArrayList<>(worth));
            memory.add(null);
        }
        now = new Setting(dishes, guests, order, 1, 1, says, memory, null);
        evenings = 0;
        return guests.size();
    }

    private boolean no(int g) {
        return g < 0 || g >= now.guests().size();
    }

    private boolean noDish(int d) {
        return d < 0 || d >= now.dishes().size();
    }

    private boolean noTable() {
        return now.guests().isEmpty();
    }

    int ofDish(int d, int what) {
        if (noDish(d)) {
            return -1;
        }
        return what == 0 ? now.dishes().get(d).howMany() : what == 1 ? now.dishes().get(d).price() : -2;
    }

    int ofGuest(int g, int what) {
        if (no(g)) {
            return -1;
        }
        Guest guest = now.guests().get(g);
        return switch (what) {
            case 0 -> guest.kind();
            case 1 -> guest.kin();
            case 2 -> guest.content();
            case 3 -> now.order().indexOf(g);
            case 4 -> now.memory().get(g) == null ? -8 : now.memory().get(g);
            default -> -2;
        };
    }

    int worth(int g, int d, boolean says) {
        if (no(g) || noDish(d)) {
            return -5;
        }
        return says ? now.says().get(g).get(d) : now.guests().get(g).worth().get(d);
    }

    int say(int g, int d, int v) {
        if (no(g) || noDish(d)) {
            return -1;
        }
        if (v < 0 || v > 9) {
            return -2;
        }
        return now.guests().get(g).worth().get(d) < 0 ? -3 : now.says().get(g).set(d, v);
    }

    int swap(int g, int h) {
        if (no(g) || no(h)) {
            return -1;
        }
        now.order().replaceAll(at -> at == g ? h : at == h ? g : at);
        return 1;
    }

    int step(int v) {
        if (v < 1 || v >= now.guests().size()) {
            return -2;
        }
        int was = now.step();
        now = now.seated(now.order(), v);
        return was;
    }

    int courses(int v) {
        if (v < 1 || v > 8) {
            return -2;
        }
        if (noTable()) {
            return -3;
        }
        int were = now.courses();
        now = new Setting(now.dishes(), now.guests(), now.order(), now.step(), v, now.says(), now.memory(), null);
        return were;
    }

    // ---- 2

    int dine() {
        if (noTable()) {
            return -3;
        }
        Gone gone = next();
        now = now.with(gone.memory);
        evenings++;
        return gone.all();
    }

    int forget() {
        int remembered = (int) now.memory().stream().filter(m -> m != null).count();
        now = now.with(nobody());
        return remembered;
    }

    private List<Integer> nobody() {
        return new ArrayList<>(Arrays.asList(new Integer[now.guests().size()]));
    }

    int gets(int g, int course) {
        return no(g) || course < 0 || course >= now.courses() ? -1 : next().got.get(course).get(g);
    }

    int glad(int g) {
        return no(g) ? -1 : next().glad[g];
    }

    private static long share(int upper, int lower, int which) {
        int common = BigInteger.valueOf(upper).gcd(BigInteger.valueOf(lower)).intValue();
        return which == 0 ? upper / common : lower / common;
    }

    long pays(int g, boolean alike, int which) {
        if (no(g) || which < 0 || which > 1) {
            return LOST;
        }
        int[] paid = next().paid;
        return alike ? share(Arrays.stream(paid).sum(), now.guests().size(), which) : share(paid[g], 1, which);
    }

    // ---- 3

    int judge(int sheet, int sort, int i, int n) {
        int refused = refusedRow(sheet, sort, i, n);
        if (refused != 0) {
            return refused;
        }
        if (noTable()) {
            return -3;
        }
        int guests = now.guests().size();
        if (n > guests * now.courses()) {
            return -2;
        }
        for (int k = 0; k < n; k++) {
            if (at(sheet, i + k) != -9 && noDish(at(sheet, i + k))) {
                return -1;
            }
        }
        int[] taken = new int[6];
        for (int k = 0; k < n; k++) {
            int dish = at(sheet, i + k);
            Guest target = now.guests().get(now.order().get((k % guests + now.step()) % guests));
            List<Integer> can = now.dishes().stream()
                .filter(d -> d.howMany() > taken[d.number()] && target.worth().get(d.number()) >= 0)
                .map(Dish::number).toList();
            if (dish == -9 ? !can.isEmpty() : !can.contains(dish)) {
                return k;
            }
            if (dish >= 0) {
                taken[dish]++;
            }
        }
        return -9;
    }

    private int[] bestRow;
    private int bestGlad;

    private void tryRows(int[] row, int[] left, int g) {
        if (g == row.length) {
            int glad = 0;
            for (int seat = 0; seat < row.length; seat++) {
                Guest asker = now.guests().get(now.order().get(seat));
                Guest target = now.guests().get(now.order().get((seat + now.step()) % row.length));
                glad += 10 * truly(asker, row[asker.number()]) + asker.kin() * truly(target, row[target.number()]);
            }
            if (glad > bestGlad) {
                bestGlad = glad;
                bestRow = row.clone();
            }
            return;
        }
        for (int d = 0; d <= now.dishes().size(); d++) {
            row[g] = d == now.dishes().size() ? -9 : d;
            if (row[g] < 0) {
                tryRows(row, left, g + 1);
            } else if (left[d] > 0 && now.guests().get(g).worth().get(d) >= 0) {
                left[d]--;
                tryRows(row, left, g + 1);
                left[d]++;
            }
        }
    }

    int best(int q) {
        if (q < -1 || q >= now.guests().size()) {
            return -1;
        }
        if (noTable()) {
            return -3;
        }
        bestGlad = -1;
        tryRows(new int[now.guests().size()], now.dishes().stream().mapToInt(Dish::howMany).toArray(), 0);
        return q < 0 ? bestGlad : bestRow[q];
    }

    private List<List<Integer>> rows(List<Integer> begun) {
        List<List<Integer>> rows = new ArrayList<>();
        if (begun.size() == now.guests().size()) {
            rows.add(begun);
        }
        for (int g = 0; g < now.guests().size(); g++) {
            if (!begun.contains(g)) {
                List<Integer> longer = new ArrayList<>(begun);
                longer.add(g);
                rows.addAll(rows(longer));
            }
        }
        return rows;
    }

    int seats(int aim, int q) {
        if (aim < 0 || aim > 1) {
            return -2;
        }
        if (q < -1 || q >= now.guests().size()) {
            return -1;
        }
        if (noTable()) {
            return -3;
        }
        int most = -1;
        List<Integer> row = null;
        for (List<Integer> order : rows(List.of(0))) {
            Gone gone = evening(now.seated(order, now.step()).with(nobody()));
            int comes = aim == 0 ? gone.all() : Arrays.stream(gone.glad).limit(order.size()).min().orElse(0);
            if (comes > most) {
                most = comes;
                row = order;
            }
        }
        return q < 0 ? most : row.get(q);
    }

    // ---- 4

    /** Tail, ring, and upon them how glad each is in the ring. */
    private static int[] walk(Setting from) {
        Map<List<Integer>, Integer> seen = new HashMap<>();
        List<int[]> glad = new ArrayList<>();
        Setting s = from;
        while (!seen.containsKey(s.memory())) {
            seen.put(s.memory(), seen.size());
            Gone gone = evening(s);
            glad.add(gone.glad);
            s = s.with(gone.memory);
        }
        int[] out = new int[9];
        out[0] = seen.get(s.memory());
        out[1] = seen.size() - out[0];
        for (int[] one : glad.subList(out[0], glad.size())) {
            for (int g = 0; g < 7; g++) {
                out[2 + g] += one[g];
            }
        }
        return out;
    }

    int ever(int what) {
        return what < 0 || what > 1 ? -2 : noTable() ? -3 : walk(now)[what];
    }

    long mean(int g, int which) {
        if (no(g) || which < 0 || which > 1) {
            return LOST;
        }
        int[] walked = walk(now);
        return share(walked[2 + g], walked[1], which);
    }

    int leaves() {
        if (noTable()) {
            return -3;
        }
        int set = 0;
        int[] as = walk(now);
        for (Guest guest : now.guests()) {
            for (int kind = 0; kind < 3; kind++) {
                List<Guest> others = new ArrayList<>(now.guests());
                others.set(guest.number(),
                    new Guest(guest.number(), kind, guest.kin(), guest.content(), guest.worth()));
                int[] other = walk(now.among(others));
                if (other[2 + guest.number()] / (double) other[1] > as[2 + guest.number()] / (double) as[1] + 1e-9) {
                    set |= 1 << guest.number();
                }
            }
        }
        return set;
    }

    int spite(int g, int what) {
        if (no(g)) {
            return -1;
        }
        if (what < 0 || what > 1) {
            return -2;
        }
        Setting plain = now;
        Setting spited = now.spited(g);
        int fades = -9;
        int back = -9;
        for (int e = 0; e < 200; e++) {
            Gone without = evening(plain);
            Gone with = evening(spited);
            for (int c = 0; c < now.courses(); c++) {
                Guest guest = now.guests().get(g);
                if (back == -9 && truly(guest, with.got.get(c).get(g)) < truly(guest, without.got.get(c).get(g))) {
                    back = e * now.courses() + c;
                }
            }
            plain = plain.with(without.memory);
            spited = spited.with(with.memory);
            if (fades == -9 && without.memory.equals(with.memory)) {
                fades = e + 1;
            }
        }
        return what == 0 ? fades : back;
    }

    // ---- 5

    int lies(int g, int what) {
        if (no(g)) {
            return -1;
        }
        if (what < 0 || what > 1) {
            return -2;
        }
        int most = next().glad[g];
        int lie = -9;
        for (int d = 0; d < now.dishes().size(); d++) {
            if (now.guests().get(g).worth().get(d) < 0) {
                continue;
            }
            List<List<Integer>> says = new ArrayList<>(now.says());
            List<Integer> his = new ArrayList<>(says.get(g));
            for (int e = 0; e < his.size(); e++) {
                his.set(e, e == d ? 9 : 0);
            }
            says.set(g, his);
            int glad = evening(now.saying(says)).glad[g];
            if (glad > most) {
                most = glad;
                lie = d;
            }
        }
        return what == 0 ? lie : most;
    }

    long chair(int g) {
        if (no(g) || now.guests().size() < 3 || now.step() == now.guests().size() - 1) {
            return LOST;
        }
        Gone with = next();
        List<Integer> order = new ArrayList<>(now.order());
        order.remove((Integer) g);
        return evening(now.seated(order, now.step())).all() - (with.all() - with.glad[g]);
    }

    int law(int what) {
        if (what < 0 || what > 1) {
            return -2;
        }
        if (noTable()) {
            return -3;
        }
        int by = 1;
        for (int v = 2; v < now.guests().size(); v++) {
            if (evening(now.seated(now.order(), v)).all() > evening(now.seated(now.order(), by)).all()) {
                by = v;
            }
        }
        return what == 0 ? by : evening(now.seated(now.order(), by)).all();
    }

    // ---- 6

    int sheet(int k, int sort, int n) {
        fault = 0;
        if (k < 0 || k > 3) {
            return -1;
        }
        if (sort < 0 || sort > 2 || n > 100) {
            return -2;
        }
        try {
            sheets[k] = sort == 0 ? new byte[n] : sort == 1 ? new short[n] : new int[n];
            return 1;
        } catch (NegativeArraySizeException e) {
            return fault(4);
        }
    }

    int lose(int k) {
        if (k < 0 || k > 3) {
            return -1;
        }
        int had = sheets[k] == null ? 0 : 1;
        sheets[k] = null;
        return had;
    }

    int put(int k, int i, int v) {
        fault = 0;
        if (k < 0 || k > 3) {
            return -1;
        }
        if (sheets[k] == null) {
            return fault(1);
        }
        try {
            if (sheets[k] instanceof byte[] b) {
                b[i] = (byte) v;
            } else if (sheets[k] instanceof short[] s) {
                s[i] = (short) v;
            } else {
                ((int[]) sheets[k])[i] = v;
            }
            return 1;
        } catch (IndexOutOfBoundsException e) {
            return fault(3);
        }
    }

    long cell(int k, int i, int sort) {
        fault = 0;
        if (k < 0 || k > 3 || sort < 0 || sort > 2) {
            return LOST;
        }
        try {
            return sort == 0 ? ((byte[]) sheets[k])[i] : sort == 1 ? ((short[]) sheets[k])[i] : ((int[]) sheets[k])[i];
        } catch (ClassCastException e) {
            fault = 2;
        } catch (NullPointerException e) {
            fault = 1;
        } catch (IndexOutOfBoundsException e) {
            fault = 3;
        }
        return LOST;
    }

    int copy(int k, int i, int other, int j, int n) {
        fault = 0;
        if (k < 0 || k > 3 || other < 0 || other > 3) {
            return -1;
        }
        try {
            System.arraycopy(sheets[k], i, sheets[other], j, n);
            return n;
        } catch (NullPointerException e) {
            return fault(1);
        } catch (ArrayStoreException e) {
            return fault(2);
        } catch (IndexOutOfBoundsException e) {
            return fault(3);
        }
    }

    private void body(int number) {
        trace = trace * 31 + number;
    }

    private class Kind {
        final int g;

        Kind(int g) {
            this.g = g;
        }

        int tell() {
            return first();
        }

        final int first() {
            body(1);
            return now.guests().get(g).kin();
        }

        int greet() {
            body(4);
            return g;
        }
    }

    private class Cheap extends Kind {
        Cheap(int g) {
            super(g);
        }

        @Override int tell() {
            body(2);
            return super.tell() + 100;
        }
    }

    private final class Payer extends Cheap {
        Payer(int g) {
            super(g);
        }

        @Override int tell() {
            body(3);
            return super.tell() + first();
        }

        @Override int greet() {
            body(5);
            return 70;
        }
    }

    private Kind one(int g) {
        int kind = now.guests().get(g).kind();
        return kind == 0 ? new Kind(g) : kind == 1 ? new Cheap(g) : new Payer(g);
    }

    int tell(int g) {
        return no(g) ? -1 : one(g).tell();
    }

    int greet(int g) {
        return no(g) ? -1 : one(g).greet();
    }

    int as(int g, int kind) {
        fault = 0;
        if (no(g)) {
            return -1;
        }
        if (kind < 0 || kind > 2) {
            return -2;
        }
        Kind one = one(g);
        boolean is = kind == 0 || (kind == 1 ? one instanceof Cheap : one instanceof Payer);
        return is ? 1 : fault(2);
    }

    int trace() {
        return trace;
    }

    int fault() {
        return fault;
    }

    int many(int what) {
        return switch (what) {
            case 0 -> now.guests().size();
            case 1 -> now.dishes().size();
            case 2 -> now.step();
            case 3 -> now.courses();
            case 4 -> evenings;
            default -> -2;
        };
    }
}

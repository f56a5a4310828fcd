import java.util.Random;

/** All promises: long runs of calls, drawn from a fixed seed, against the plain model. */
public final class ModelTest {
    private static final int RUNS = 400;
    // An object is used for at most 512 calls: no text is begun, and no other call, beyond these.
    private static final int CALLS_BEFORE_TEXT = 360;
    private static final int CALLS = 500;

    private final Due due;
    private final Random random;
    private final RoundAsk x = new RoundAsk();
    private final Model model = new Model();
    private int calls;

    private ModelTest(Due due, long seed) {
        this.due = due;
        random = new Random(seed);
    }

    public static void main(String[] args) {
        Due due = new Due();
        for (int run = 0; run < RUNS; run++) {
            new ModelTest(due, 20261119L + run).run(run);
        }
        due.end();
    }

    private void run(int run) {
        int most = run % 8 == 0 ? 7 : 5;
        while (calls < CALLS_BEFORE_TEXT) {
            text(most);
            int some = 20 + random.nextInt(80);
            for (int k = 0; k < some && calls < CALLS; k++) {
                call(random.nextInt(44));
            }
        }
    }

    private void is(String call, long want, long got) {
        calls++;
        due.is("call " + calls + ", " + call, want, got);
    }

    private char digit(int low, int high) {
        return (char) ('0' + low + random.nextInt(high - low + 1));
    }

    /** Of a kind that comes out one way or the other: few prices, few worths, few or many dishes. */
    private String drawn(int mostGuests) {
        int m = 2 + random.nextInt(5);
        int worths = random.nextInt(3) == 0 ? 3 : 9;
        int prices = random.nextInt(2) == 0 ? 2 : 9;
        int many = random.nextInt(3) == 0 ? 9 : 3;
        int payers = random.nextInt(3);
        StringBuilder text = new StringBuilder("d").append(m);
        for (int d = 0; d < m; d++) {
            text.append(digit(1, many)).append(digit(0, prices));
        }
        int guests = 2 + random.nextInt(mostGuests - 1);
        for (int g = 0; g < guests; g++) {
            char letter = random.nextInt(3) < payers ? 'p' : "kcp".charAt(random.nextInt(3));
            text.append(';').append(letter).append(digit(0, 9));
            if (letter == 'p') {
                text.append(digit(0, 9));
            }
            int may = random.nextInt(m);
            for (int d = 0; d < m; d++) {
                text.append(d != may && random.nextInt(8) == 0 ? 'x' : digit(0, worths));
            }
        }
        return text.toString();
    }

    private void text(int mostGuests) {
        StringBuilder text = new StringBuilder(drawn(mostGuests));
        if (random.nextInt(3) == 0) {
            int at = random.nextInt(text.length());
            switch (random.nextInt(3)) {
                case 0 -> text.setCharAt(at, "dkcpx;0189 ".charAt(random.nextInt(11)));
                case 1 -> text.setLength(at);
                default -> text.insert(at, "dkcpx;0189 ".charAt(random.nextInt(11)));
            }
        }
        int sort = random.nextInt(3);
        int n = text.length();
        is("sheet", model.sheet(0, sort, n), x.sheet(0, sort, n));
        for (int i = 0; i < n; i++) {
            is("put", model.put(0, i, text.charAt(i)), x.put(0, i, text.charAt(i)));
        }
        is("table of " + text, model.table(0, sort, 0, n), x.table(0, sort, 0, n));
    }

    /** Mostly one of low .. high, at times one beside, at times one far off. */
    private int draw(int low, int high) {
        int how = random.nextInt(30);
        if (how == 0) {
            return low - 1;
        }
        if (how == 1) {
            return high + 1;
        }
        return how == 2 ? random.nextInt() >> random.nextInt(32) : low + random.nextInt(high - low + 1);
    }

    private int guest() {
        return draw(0, Math.max(0, model.many(0) - 1));
    }

    private int dish() {
        return draw(0, Math.max(0, model.many(1) - 1));
    }

    private void call(int which) {
        if (which < 12) {
            tableCall(which);
        } else if (which < 20) {
            eveningCall(which);
        } else if (which < 32) {
            everCall(which);
        } else {
            sheetCall(which);
        }
    }

    private void tableCall(int which) {
        int g = guest();
        int d = dish();
        int v = draw(0, 9);
        boolean says = random.nextBoolean();
        switch (which) {
            case 0 -> is("ofDish " + d, model.ofDish(d, v % 3), x.ofDish(d, v % 3));
            case 1, 2 -> is("ofGuest " + g, model.ofGuest(g, v % 6), x.ofGuest(g, v % 6));
            case 3 -> is("worth " + g + " " + d, model.worth(g, d, says), x.worth(g, d, says));
            case 4, 5, 6 -> is("say " + g + " " + d + " " + v, model.say(g, d, v), x.say(g, d, v));
            case 7, 8 -> {
                int h = guest();
                is("swap " + g + " " + h, model.swap(g, h), x.swap(g, h));
            }
            case 9 -> {
                int step = draw(1, 6);
                is("step " + step, model.step(step), x.step(step));
            }
            case 10 -> {
                int courses = draw(1, random.nextInt(4) == 0 ? 8 : 3);
                is("courses " + courses, model.courses(courses), x.courses(courses));
            }
            default -> is("many " + v, model.many(v % 6), x.many(v % 6));
        }
    }

    private void eveningCall(int which) {
        int g = guest();
        int half = draw(0, 1);
        switch (which) {
            case 12, 13, 14 -> is("dine", model.dine(), x.dine());
            case 15 -> {
                if (random.nextInt(3) == 0) {
                    is("forget", model.forget(), x.forget());
                }
            }
            case 16, 17 -> {
                int course = draw(0, 1);
                is("gets " + g + " " + course, model.gets(g, course), x.gets(g, course));
            }
            case 18 -> is("glad " + g, model.glad(g), x.glad(g));
            default -> {
                boolean alike = random.nextBoolean();
                is("pays " + g, model.pays(g, alike, half), x.pays(g, alike, half));
            }
        }
    }

    private void everCall(int which) {
        int g = guest();
        int half = draw(0, 1);
        switch (which) {
            case 20, 21 -> is("ever " + half, model.ever(half), x.ever(half));
            case 22 -> is("mean " + g, model.mean(g, half), x.mean(g, half));
            case 23 -> is("leaves", model.leaves(), x.leaves());
            case 24, 25 -> is("spite " + g + " " + half, model.spite(g, half), x.spite(g, half));
            case 26, 27 -> is("lies " + g + " " + half, model.lies(g, half), x.lies(g, half));
            case 28 -> is("chair " + g, model.chair(g), x.chair(g));
            case 29 -> is("law " + half, model.law(half), x.law(half));
            default -> bestCall(which == 30, guest() - random.nextInt(2), half);
        }
    }

    private void bestCall(boolean best, int q, int aim) {
        if (best && (model.many(0) < 7 || random.nextInt(20) == 0)) {
            is("best " + q, model.best(q), x.best(q));
        } else if (!best && (model.many(0) < 6 || random.nextInt(8) == 0)) {
            is("seats " + aim + " " + q, model.seats(aim, q), x.seats(aim, q));
        }
    }

    private void sheetCall(int which) {
        int k = draw(0, 3);
        int other = draw(0, 3);
        int i = draw(0, 12);
        int n = draw(0, 12);
        int v = random.nextInt(3) == 0 ? draw(-70000, 70000) : random.nextInt(4) == 0 ? -9 : dish();
        int g = guest();
        int sort = draw(0, 2);
        switch (which) {
            case 32 -> is("sheet", model.sheet(k, sort, n), x.sheet(k, sort, n));
            case 33 -> {
                if (random.nextInt(4) == 0) {
                    is("lose", model.lose(k), x.lose(k));
                }
            }
            case 34 -> is("put", model.put(k, i, v), x.put(k, i, v));
            case 35 -> {
                for (int c = 0; c < 5; c++) {
                    int asked = random.nextInt(6) == 0 ? -9 : dish();
                    is("put", model.put(k, c, asked), x.put(k, c, asked));
                }
                is("judge", model.judge(k, sort, 0, n % 6), x.judge(k, sort, 0, n % 6));
            }
            case 36 -> is("cell", model.cell(k, i, sort), x.cell(k, i, sort));
            case 37 -> is("copy", model.copy(k, i, other, v % 7, n), x.copy(k, i, other, v % 7, n));
            case 38 -> is("judge", model.judge(k, sort, i, n), x.judge(k, sort, i, n));
            case 39 -> is("tell", model.tell(g), x.tell(g));
            case 40 -> is("greet", model.greet(g), x.greet(g));
            case 41 -> is("as", model.as(g, sort), x.as(g, sort));
            case 42 -> is("trace", model.trace(), x.trace());
            default -> is("fault", model.fault(), x.fault());
        }
    }
}

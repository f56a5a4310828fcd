/** Promises 18 to 21 and part 4 at their edges, a test for each sentence: TAIL, RING, MEAN, LEAVES, SPITE. */
public final class EdgeEverTest {
    private static final Due due = new Due();
    // Dish 0 is there once. Content, 0 asks it for 1, and is left dish 1; not content, the other way.
    private static final String TURNS = "d21191;p1591;k092";
    private static final int NOBODY = -1;
    // Of each dish there are nine, for two guests: so in a chain there is enough of all.
    private static final int MOST_COURSES = 4;

    public static void main(String[] args) {
        tailAndRing();
        tailFromNow();
        nothingIsRemembered();
        longTails();
        longRings();
        everRefused();
        mean();
        meanOfTheRingAlone();
        meanInLeastTerms();
        meanRefused();
        leavesAsASet();
        leavesIfGreater();
        leavesOfAnotherKind();
        leavesAlone();
        leavesWithContentAsItIs();
        leavesFromNow();
        spiteInTheFirstCourse();
        spiteWhateverHeIs();
        spiteTies();
        fades();
        fadesNever();
        fadesByDishes();
        fadesByNothing();
        fadesLate();
        back();
        backLate();
        backTooLate();
        backNever();
        backByWorth();
        spiteRefused();
        onlyTold();
        withoutTable();
        due.end();
    }

    /**
     * Guests who pay back, but for one who is KIND (or nobody), each asking for the one in the seat before
     * his own. Each may have a dish that is worth 9 to him (of the first five) or dish 5, worth 1. Who is not
     * content asks dish 5 for the one before him, who has asked already, but for the last one: so what goes
     * wrong goes on by a guest a course.
     */
    private static RoundAsk chain(int n, int kind) {
        StringBuilder text = new StringBuilder("d6909090909099");
        for (int g = 0; g < n; g++) {
            text.append(g == kind ? ";k0" : ";p05").append("x".repeat(g % 5)).append("9").append("x".repeat(4 - g % 5));
            text.append("1");
        }
        RoundAsk x = Laid.at(text.toString());
        x.step(n - 1);
        return x;
    }

    /** A chain in which the last but one has just got dish 5, and all others what they like. */
    private static RoundAsk wave(int n, int kind) {
        RoundAsk x = chain(n, kind);
        int g = n - 2;
        x.say(g, 5, 9);
        x.say(g, g % 5, 0);
        x.dine();
        x.say(g, 5, 1);
        x.say(g, g % 5, 9);
        return x;
    }

    private static int gcd(int a, int b) {
        return b == 0 ? a : gcd(b, a % b);
    }

    private static int evenings(int ofCourses, int each) {
        return (ofCourses + each - 1) / each;
    }

    // "how many till what is remembered comes again for ever; RING: in how many evenings that comes again"
    private static void tailAndRing() {
        RoundAsk x = Laid.at("d29090;k011;k011");
        due.is("all the same: tail, as nothing is remembered yet", 1, x.ever(0));
        due.is("all the same: ring", 1, x.ever(1));
        x.dine();
        due.is("all the same: tail", 0, x.ever(0));
        due.is("all the same: ring", 1, x.ever(1));
        x.forget();
        due.is("forgotten: tail", 1, x.ever(0));
    }

    // "from what is remembered now"
    private static void tailFromNow() {
        RoundAsk x = Laid.at(TURNS);
        for (int e = 0; e < 6; e++) {
            due.is("tail after " + e, e == 0 ? 1 : 0, x.ever(0));
            due.is("ring after " + e, 2, x.ever(1));
            x.dine();
        }
        x.courses(2);
        // Each evening of two courses ends with dish 1 for both, though they do not begin alike.
        due.is("ring of two courses", 1, x.ever(1));
    }

    // To remember NOTHING is not to remember nothing: "(he remembers it; NOTHING, too)"
    private static void nothingIsRemembered() {
        for (int n = 2; n <= 7; n++) {
            // Both dishes are gone after the first course: all end with NOTHING.
            RoundAsk x = Laid.at("d2" + n + "0" + n + "0" + ";k01x".repeat(n));
            x.courses(2);
            due.is("tail ahead of an evening", 1, x.ever(0));
            due.is("ring", 1, x.ever(1));
            x.dine();
            due.is("all remember NOTHING", -9, x.ofGuest(0, 4));
            due.is("tail after an evening", 0, x.ever(0));
        }
    }

    // TAIL: till the last one who remembers what does not come again has forgotten it
    private static void longTails() {
        for (int n = 2; n <= 7; n++) {
            for (int kind = 0; kind < n; kind++) {
                for (int courses = 1; courses <= MOST_COURSES; courses++) {
                    RoundAsk x = wave(n, kind);
                    x.courses(courses);
                    int tail = evenings(kind == n - 1 ? n : n - 1 - kind, courses);
                    due.is("tail of " + n + ", " + kind + " KIND, in " + courses, tail, x.ever(0));
                    due.is("ring", 1, x.ever(1));
                }
            }
        }
    }

    // RING: from 1 to as many as it takes to come round
    private static void longRings() {
        for (int n = 2; n <= 7; n++) {
            for (int courses = 1; courses <= MOST_COURSES; courses++) {
                RoundAsk x = wave(n, NOBODY);
                due.is("the last one was content, which does not come again", 1, x.ever(0));
                x.courses(courses);
                due.is("ring of " + n + " in " + courses, (n - 1) / gcd(n - 1, courses), x.ever(1));
                x.dine();
                due.is("in the ring", 0, x.ever(0));
                x.forget();
                due.is("peace of " + n + " in " + courses, 1, x.ever(1));
            }
        }
    }

    // "OUTSIDE" of ever
    private static void everRefused() {
        RoundAsk x = Laid.at(TURNS);
        for (int bad : new int[] {-1, 2, -9, Integer.MIN_VALUE, Integer.MAX_VALUE}) {
            due.is("what " + bad, -2, x.ever(bad));
            due.is("what " + bad + ", without a table", -2, new RoundAsk().ever(bad));
        }
    }

    // "MEAN of a GUEST: GLAD by an evening of the RING"
    private static void mean() {
        for (int n = 2; n <= 7; n++) {
            for (int courses = 1; courses <= MOST_COURSES; courses++) {
                // In n - 1 courses each gets dish 5 once.
                RoundAsk x = wave(n, NOBODY);
                x.courses(courses);
                int upper = (90 * (n - 2) + 10) * courses;
                int by = gcd(upper, n - 1);
                for (int g = 0; g < n; g++) {
                    due.is("mean of " + g + " of " + n + " in " + courses, upper / by, x.mean(g, 0));
                    due.is("mean of " + g + " of " + n + " in " + courses + ", by", (n - 1) / by, x.mean(g, 1));
                }
                x.forget();
                due.is("in peace", 90 * courses, x.mean(n - 1, 0));
                due.is("in peace, by", 1, x.mean(n - 1, 1));
            }
        }
    }

    // "of the RING": the TAIL does not count
    private static void meanOfTheRingAlone() {
        RoundAsk x = Laid.at("d29195;p0981;k081");
        due.is("in the first evening", 80, x.glad(1));
        due.is("tail", 2, x.ever(0));
        due.is("from then on", 10, x.mean(1, 0));
        due.is("0 all the time", 80, x.mean(0, 0));
        for (int kind = 0; kind < 7; kind++) {
            x = wave(7, kind);
            for (int g = 0; g < 7; g++) {
                due.is(g + " in the peace that comes", 90, x.mean(g, 0));
            }
        }
    }

    // "told as upper and lower number (above 0) in least terms"
    private static void meanInLeastTerms() {
        RoundAsk x = Laid.at(TURNS);
        due.is("19 and 92 by two", 111, x.mean(0, 0));
        due.is("by two", 2, x.mean(0, 1));
        due.is("90 and 20 by two, which is 55", 55, x.mean(1, 0));
        due.is("by one", 1, x.mean(1, 1));
        x = Laid.at("d29090;k000;k000");
        due.is("never glad", 0, x.mean(1, 0));
        due.is("never glad, by one", 1, x.mean(1, 1));
        // A ring of two evenings, in both of which 1 is glad of nothing.
        x = Laid.at("d21191;p0591;k000");
        x.say(1, 0, 9);
        x.say(1, 1, 2);
        due.is("ring", 2, x.ever(1));
        due.is("never glad in two evenings", 0, x.mean(1, 0));
        due.is("never glad in two evenings, by one", 1, x.mean(1, 1));
    }

    // "LOST: UNKNOWN; OUTSIDE: which." of mean
    private static void meanRefused() {
        RoundAsk x = Laid.at(TURNS);
        for (int bad : new int[] {-1, 2, Integer.MIN_VALUE, Integer.MAX_VALUE}) {
            due.is("guest " + bad, RoundAsk.LOST, x.mean(bad, 0));
            due.is("which " + bad, RoundAsk.LOST, x.mean(0, bad));
        }
        due.is("without a table", RoundAsk.LOST, new RoundAsk().mean(0, 0));
    }

    // "Sets are told as bits (bit k for number k)."
    private static void leavesAsASet() {
        for (int n = 2; n <= 7; n++) {
            for (int one = 0; one < n; one++) {
                // A CHEAP one of KIN 9 would be gladder if he asked what is worth 9.
                String text = "d29591" + ";k091".repeat(one) + ";c991" + ";k091".repeat(n - 1 - one);
                due.is(one + " of " + n, 1 << one, Laid.at(text).leaves());
            }
            due.is("all " + n, (1 << n) - 1, Laid.at("d29591" + ";c991".repeat(n)).leaves());
            due.is("none of " + n, 0, Laid.at("d29591" + ";k991".repeat(n)).leaves());
        }
    }

    // "MEAN would be greater": not if it is the same
    private static void leavesIfGreater() {
        due.is("of KIN 0 it is the same", 0, Laid.at("d29591;c091;c091").leaves());
        due.is("of KIN 1 it is more", 1, Laid.at("d29591;c191;c091").leaves());
        due.is("never glad", 0, Laid.at("d29591;c900;p9900").leaves());
        // By 1, the least by which it can be more: KIN 1, and what is worth 1 instead of 0.
        due.is("more by one", 1, Laid.at("d29591;c100;k010").leaves());
        due.is("less by one", 0, Laid.at("d29591;k100;k010").leaves());
        // A PAYER who has his way every other evening, with 95 in the one and 90, 95 or 100 in the other one; as a
        // KIND one he would have 95 in each.
        due.is("92 and a half, or 95", 1, Laid.at("d21191;p5665;k096").leaves());
        due.is("95 in a ring of two, or of one", 0, Laid.at("d21191;p5665;k097").leaves());
        due.is("97 and a half, or 95", 0, Laid.at("d21191;p5665;k098").leaves());
        due.is("the ring of two", 2, Laid.at("d21191;p5665;k097").ever(1));
        due.is("95 in it", 95, Laid.at("d21191;p5665;k097").mean(0, 0));
        due.is("95 in it, by one", 1, Laid.at("d21191;p5665;k097").mean(0, 1));
        // By MEAN, not by all the RING: each would be glad of 90 an evening instead of less in more of them.
        for (int n = 3; n <= 7; n++) {
            due.is("all would end it", (1 << n) - 1, wave(n, NOBODY).leaves());
        }
    }

    // "of another kind (0, 1, 2 ..)"
    private static void leavesOfAnotherKind() {
        // 1 says that dish 1 is the better one: by price alone 0 would ask what makes both gladder.
        RoundAsk x = Laid.at("d29195;k991;k091");
        x.say(1, 0, 0);
        x.say(1, 1, 9);
        due.is("from KIND to CHEAP", 1, x.leaves());
        due.is("from CHEAP to KIND", 1, Laid.at("d29591;c991;k091").leaves());
        // 0 is never content, and has KIN 9; CHEAP he would ask the same as now.
        due.is("from PAYER to KIND", 1, Laid.at("d29195;p9981;k019").leaves());
        // 1 says 9, 0 and 5 of what is worth 1, 1 and 9: only by price 0 would ask dish 2.
        x = Laid.at("d3929390;p99881;k0119");
        x.say(1, 0, 9);
        x.say(1, 1, 0);
        x.say(1, 2, 5);
        due.is("from PAYER to CHEAP", 1, x.leaves());
    }

    // "if they alone were"
    private static void leavesAlone() {
        // If both were KIND both would be gladder, but neither is by what he asks himself.
        RoundAsk x = Laid.at("d29591;c091;c091");
        due.is("alone neither is gladder", 0, x.leaves());
        due.is("0 stays as he is", 1, x.ofGuest(0, 0));
        due.is("1 stays as he is", 1, x.ofGuest(1, 0));
        due.is("as they are", 10, x.mean(0, 0));
    }

    // "CONTENT as it is": of a KIND or CHEAP one it is 0, so he would not pay back
    private static void leavesWithContentAsItIs() {
        // 1 says the contrary of what is true: if 0 paid back, he would ask for 1 what is worth 9.
        RoundAsk x = Laid.at("d29191;k900;k091");
        x.say(1, 0, 0);
        x.say(1, 1, 9);
        due.is("KIND: content with nothing", 0, x.leaves());
        due.is("KIND: 9 times 1", 9, x.mean(0, 0));
        x = Laid.at("d29191;c900;k091");
        x.say(1, 0, 0);
        x.say(1, 1, 9);
        due.is("CHEAP: content with nothing", 0, x.leaves());
        x = Laid.at("d29191;p9100;k091");
        x.say(1, 0, 0);
        x.say(1, 1, 9);
        due.is("PAYER: pays back, and is gladder so", 0, x.leaves());
        due.is("PAYER: 9 times 9", 81, x.mean(0, 0));
    }

    // "from what is remembered now"
    private static void leavesFromNow() {
        for (int n = 3; n <= 7; n++) {
            due.is("in peace nobody", 0, chain(n, NOBODY).leaves());
            RoundAsk x = wave(n, NOBODY);
            due.is("one remembers dish 5", (1 << n) - 1, x.leaves());
            x.forget();
            due.is("all have forgotten", 0, x.leaves());
        }
    }

    // "in the first COURSE to come he asks as a PAYER would who was not content"
    private static void spiteInTheFirstCourse() {
        for (int courses = 1; courses <= 4; courses++) {
            // 1 gets dish 1 in the first course, in the second one dish 0 as ever.
            RoundAsk x = Laid.at("d29195;k091;k091");
            x.courses(courses);
            due.is("in one of " + courses, courses == 1 ? 2 : 1, x.spite(0, 0));
            due.is("in one of " + courses, courses == 1 ? 2 : 1, x.spite(1, 0));
        }
    }

    // "(whatever he is)"
    private static void spiteWhateverHeIs() {
        for (String one : new String[] {"k0", "c0", "p00", "p09"}) {
            RoundAsk x = Laid.at("d29195;" + one + "91;k091");
            due.is(one + " asks the least worth", 2, x.spite(0, 0));
        }
        // What he asks anyhow, he asks in spite, too.
        due.is("a CHEAP one", 1, Laid.at("d29591;c091;k091").spite(0, 0));
        RoundAsk x = Laid.at("d29195;p0981;k081");
        due.is("a PAYER who remembers nothing", 2, x.spite(0, 0));
        x.dine();
        due.is("a PAYER who is not content", 1, x.spite(0, 0));
        due.is("it is not back", -9, x.spite(0, 1));
    }

    // "as a PAYER would": the least WORTH as that one SAYS; of several as a CHEAP one would
    private static void spiteTies() {
        int[][] prices = {{1, 2}, {2, 1}, {1, 1}};
        for (int[] p : prices) {
            int asked = p[0] <= p[1] ? 1 : 2;
            for (int bad = 1; bad <= 2; bad++) {
                // 1 says 0 of dishes 1 and 2; one of them is worth 9, with the other he is not content.
                String worth = bad == 1 ? "09" : "90";
                RoundAsk x = Laid.at("d5909" + p[0] + "9" + p[1] + "9090;k0xxx91;p059" + worth + "xx");
                x.say(1, 1, 0);
                x.say(1, 2, 0);
                due.is("prices " + p[0] + p[1] + ", dish " + bad + " is bad", bad == asked ? 0 : -9, x.spite(0, 1));
            }
        }
    }

    // "FADES: how many evenings are over as what is remembered is the same as without it"
    private static void fades() {
        due.is("what changes nothing, as the first is over", 1, Laid.at("d29195;k091;k0x1").spite(0, 0));
        for (int n = 2; n <= 7; n++) {
            for (int kind = 0; kind < n; kind++) {
                for (int courses = 1; courses <= MOST_COURSES; courses++) {
                    RoundAsk x = chain(n, kind);
                    x.courses(courses);
                    int over = evenings(kind == n - 1 ? n + 1 : n - kind, courses);
                    due.is("of " + n + ", " + kind + " KIND, in " + courses, over, x.spite(n - 1, 0));
                }
            }
        }
    }

    // "(200 at most; else NONE)"
    private static void fadesNever() {
        for (int n = 2; n <= 7; n++) {
            for (int courses = 1; courses <= MOST_COURSES; courses++) {
                for (int g = 0; g < n; g++) {
                    RoundAsk x = chain(n, NOBODY);
                    x.courses(courses);
                    due.is(g + " of " + n + ", in " + courses, -9, x.spite(g, 0));
                }
            }
        }
    }

    // "what is remembered is the same": the DISH, not its WORTH
    private static void fadesByDishes() {
        // Both dishes are worth the same to 0, and he gets the other one.
        RoundAsk x = Laid.at("d21111;k055;k091");
        due.is("0 gets dish 1", 1, x.gets(0, 0));
        due.is("not as the first is over", 2, x.spite(0, 0));
        // 1 is left NOTHING, or what is worth 0: it is not the same either.
        x = Laid.at("d21111;k00x;k091");
        x.step(1);
        due.is("1 gets dish 0", 0, x.gets(1, 0));
        due.is("0 gets NOTHING", -9, x.gets(0, 0));
        due.is("with it he gets dish 0, worth 0", 2, x.spite(0, 0));
    }

    // ".. is the same": NOTHING, and each DISH, for him who gets it by it instead of NOTHING
    private static void fadesByNothing() {
        for (int a = 0; a < 6; a++) {
            // Of dish a there are two, in the first course; 1 may have it alone. In spite 1 asks the other one for 0,
            // and in the second course 1 gets what is left, and 0 what he would get anyhow.
            int b = (a + 1) % 6;
            StringBuilder text = new StringBuilder("d6");
            StringBuilder his = new StringBuilder("xxxxxx");
            StringBuilder others = new StringBuilder("xxxxxx");
            for (int d = 0; d < 6; d++) {
                text.append(d == a ? 2 : 9).append(0);
            }
            his.setCharAt(a, '9');
            his.setCharAt(b, '1');
            others.setCharAt(a, '9');
            RoundAsk x = Laid.at(text + ";k0" + his + ";k0" + others);
            x.courses(2);
            due.is("without it 1 gets NOTHING last", -9, x.gets(1, 1));
            due.is("0 gets last", b, x.gets(0, 1));
            due.is("by it 1 gets dish " + a + " last", 2, x.spite(1, 0));
        }
    }

    /** A table of seven who each ask for the one in the seat before, and each SAYS so: see text and says. */
    private static RoundAsk saying(String text, String says) {
        RoundAsk x = Laid.at(text);
        sayAll(x, says);
        x.step(6);
        return x;
    }

    private static void sayAll(RoundAsk x, String says) {
        String[] signs = says.split(",");
        for (int g = 0; g < 7; g++) {
            for (int d = 0; d < signs[g].length(); d++) {
                if (signs[g].charAt(d) != 'x') {
                    x.say(g, d, signs[g].charAt(d) - '0');
                }
            }
        }
    }

    // Among 200 evenings: a table that was searched for long, of which ModelTest's model tells the same
    private static void fadesLate() {
        RoundAsk x = saying("d6184611974019;p09xx8x9x;p090x0x29;p06920xx1;p05xx3372;p059xx058;p03x26x4x;p06x37x75",
            "xx0x6x,7x6x39,533xx1,xx9434,0xx530,x21x9x,x74x07");
        due.is("tail", 63, x.ever(0));
        due.is("ring", 1, x.ever(1));
        due.is("it fades", 63, x.spite(5, 0));
        due.is("it is not back", -9, x.spite(5, 1));
        for (int e = 1; e <= 63; e++) {
            x.dine();
            due.is("tail after " + e, 63 - e, x.ever(0));
        }
    }

    // "of 200 evenings": in the last one of them (searched for long)
    private static void backLate() {
        RoundAsk x = saying("d6381532149416;p0600171x;p035625xx;p035x09xx;p062x7xx8;p02129xx1;p0711x958;p09x5x8x9",
            "52160x,2701xx,2x90xx,0x9xx9,663xx2,68x971,x4x5x9");
        due.is("in the last evening of 200", 199, x.spite(5, 1));
        due.is("it does not fade", -9, x.spite(5, 0));
        // Evenings, not courses: of two courses each, in the second one of evening 110.
        x = saying("d6181343533929;p04674146;p02x4xx02;p0305x1x4;p05527x20;p02xx613x;p0837990x;p00x988x4",
            "278263,x2xx80,30x7x2,438x23,xx393x,77499x,x782x3");
        x.courses(2);
        due.is("in a course beyond 200", 221, x.spite(6, 1));
        due.is("it does not fade", -9, x.spite(6, 0));
        // Here it would be back in evening 201 (from 0 on), which is none of them.
        x = saying("d6242813581510;p0317x233;p0314x50x;p04x6x38x;p06x1390x;p05982x62;p03180xx5;p05x48397",
            "28x698,19x93x,x3x86x,x2340x,329x40,642xx1,x56158");
        due.is("in none of 200", -9, x.spite(5, 1));
        due.is("it does not fade", -9, x.spite(5, 0));
    }

    // "of 200 evenings": the first one beyond them is none of them (searched for long)
    private static void backTooLate() {
        RoundAsk x = Laid.at("d6331538152211;p079047xx;p07782x4x;p04x709xx;p010xx28x;p06471x72;p0720x768;p07x2xxx8");
        x.step(5);
        x.dine();
        sayAll(x, "7413xx,381x2x,x190xx,3xx69x,792x21,28x832,x2xxx3");
        x.step(6);
        // It would be back in evening 200 (from 0 on).
        due.is("200 evenings are 0 to 199", -9, x.spite(5, 1));
        due.is("it does not fade", -9, x.spite(5, 0));
        due.is("tail", 3, x.ever(0));
        due.is("ring", 10, x.ever(1));
    }

    // "BACK: the first COURSE (from 0 on, through the evenings ..) in which what he gets is WORTH less to him"
    private static void back() {
        for (int n = 2; n <= 7; n++) {
            for (int courses = 1; courses <= MOST_COURSES; courses++) {
                for (int g = 0; g < n; g++) {
                    RoundAsk x = chain(n, NOBODY);
                    x.courses(courses);
                    due.is(g + " of " + n + ", in " + courses, g == n - 1 ? n - 1 : n - 2, x.spite(g, 1));
                }
                RoundAsk x = chain(n, n - 1);
                x.courses(courses);
                due.is("at last to the KIND one", n - 1, x.spite(n - 1, 1));
            }
        }
    }

    // "NONE" of BACK
    private static void backNever() {
        for (int n = 2; n <= 7; n++) {
            for (int kind = 0; kind < n - 1; kind++) {
                due.is(kind + " of " + n + " is KIND, and ends it", -9, chain(n, kind).spite(n - 1, 1));
            }
        }
        RoundAsk x = Laid.at("d29195;k091;k091");
        for (int courses = 1; courses <= 4; courses++) {
            x.courses(courses);
            due.is("of KIND ones it is never back", -9, x.spite(0, 1));
        }
        // Of eight courses: dish 0 is there nine times, so that 1 gets it once more in the last ones, and 0 does not.
        x.courses(8);
        due.is("in the fifth course 1 gets dish 0 for it", 0, x.gets(1, 4));
        due.is("0 gets dish 1", 1, x.gets(0, 4));
        due.is("by it one more is left, and he gets it", -9, x.spite(0, 1));
    }

    // "is WORTH less to him than without"
    private static void backByWorth() {
        for (int worth = 0; worth <= 9; worth++) {
            // Each dish is there once; in spite 0 asks dish 1 for 1, and is left NOTHING.
            due.is("NOTHING for " + worth, worth > 0 ? 0 : -9, Laid.at("d21111;k0x" + worth + ";k091").spite(0, 1));
            // He is left dish 0 for dish 1, which is worth 5 to him.
            due.is(worth + " for 5", worth < 5 ? 0 : -9, Laid.at("d21111;k0" + worth + "5;k091").spite(0, 1));
        }
        // By what is truly WORTH: he says the contrary.
        for (int worth = 4; worth <= 6; worth++) {
            RoundAsk x = Laid.at("d21111;k0" + worth + "5;k091");
            x.say(0, 0, 9 - worth);
            x.say(0, 1, 4);
            due.is("truly " + worth + " for 5", worth < 5 ? 0 : -9, x.spite(0, 1));
        }
    }

    // "UNKNOWN; OUTSIDE." of spite
    private static void spiteRefused() {
        RoundAsk x = Laid.at(TURNS);
        for (int bad : new int[] {-1, 2, -9, Integer.MIN_VALUE, Integer.MAX_VALUE}) {
            due.is("guest " + bad, -1, x.spite(bad, 0));
            due.is("what " + bad, -2, x.spite(0, bad));
        }
        due.is("without a table", -1, new RoundAsk().spite(0, 0));
    }

    // All this is told alone: nothing goes by.
    private static void onlyTold() {
        RoundAsk x = wave(7, NOBODY);
        String was = State.ofTable(x);
        for (int g = 0; g < 7; g++) {
            x.spite(g, 0);
            x.spite(g, 1);
            x.mean(g, 0);
        }
        x.ever(0);
        x.leaves();
        due.is("all is as it was", 1, was.equals(State.ofTable(x)) ? 1 : 0);
    }

    // "STATE: there is no TABLE."
    private static void withoutTable() {
        RoundAsk x = new RoundAsk();
        due.is("tail", -3, x.ever(0));
        due.is("ring", -3, x.ever(1));
        due.is("leaves", -3, x.leaves());
        due.is("a text that is not taken", -106, Laid.table(x, "d21010"));
        due.is("leaves still", -3, x.leaves());
    }
}

import java.util.function.Supplier;

/** Promises 1 to 33, but for those of texts: arguments at their edges, one beyond, far off; calls that are refused. */
public final class CallEdgesTest {
    private static final int NONE = SortedOffice.NONE;
    private static final int MIN = Integer.MIN_VALUE;
    private static final int MAX = Integer.MAX_VALUE;
    private static final long NO_FRACTION = -1000000000000L;
    /** Far off, and such as come near something by wrapping round, or by a remainder. */
    private static final int[] FAR = {MIN, MIN + 1, MIN + 9, MIN + 10, MIN + 11, MIN + 20, -1000, -100, -10, -9, 200,
        256, 1024, 4096, 65536, 1 << 30, MAX - 10, MAX - 1, MAX};

    /** As many HOUSES and LETTERS as may be. */
    private static final String FULL = "houses 6;mood 0 0;mood 5 50;letter 0 joy 9;letter 0 blow 9;letter 1 money 1;"
        + "letter 1 money 9;letter 2 nothing 1;letter 3 joy 1;letter 4 blow 1;letter 5 joy 9;letter 5 joy 9;"
        + "letter 5 blow 9;law joy blow 0;law blow joy 9;law joy joy 9;minds 9 0 3;minds 0 9 0;";
    private static final String WEEK = "give 0;slip 1 5;burn 2;night;";
    private static final String LOG = "mood 3 11;mood 2 10;";
    private static final String[] TEXTS = {FULL, WEEK, LOG};
    /** As few as may be. */
    private static final String LEAST = "houses 1;";

    /** A call of which one argument is tried. */
    private interface Asked {
        long ask(int argument);
    }

    private static SortedOffice x;
    /** Makes x once more: an object is good for 512 calls. */
    private static Supplier<SortedOffice> maker;

    public static void main(String[] args) {
        newObject();
        office();
        doing();
        deed();
        till();
        state();
        order();
        meanAndSpared();
        racks();
        bags();
        sorters();
        fact();
        fits();
        drawn();
        dearSpoiltCalm();
        hoped();
        strongestAndSwapped();
        strike();
        ruled();
        after();
        then();
        count();
        images();
        imagesOfAll();
        calls();
        Check.finish();
    }

    private static void due(String call, long got, long want) {
        Check.due(call, got, want);
    }

    private static void promise(int number, String words) {
        Check.sentence("promise " + number, words);
        use(CallEdgesTest::full);
    }

    private static void use(Supplier<SortedOffice> made) {
        maker = made;
        x = made.get();
    }

    private static SortedOffice full() {
        return fullBut(NONE);
    }

    /** One of each sort but of one of them. */
    private static SortedOffice fullBut(int without) {
        SortedOffice full = new SortedOffice();
        for (int sort = 0; sort < 3; sort++) {
            if (sort != without) {
                due("telling " + TEXTS[sort], Check.tell(full, sort, NONE, TEXTS[sort]), 0);
            }
        }
        return full;
    }

    private static void use(String office) {
        use(() -> Check.with(office));
    }

    private static void use(String office, int sort, String other) {
        use(() -> Check.with(office, sort, other));
    }

    /** What x has, and this told, too. */
    private static void tellBesides(int sort, int at, String text) {
        Supplier<SortedOffice> before = maker;
        use(() -> {
            SortedOffice y = before.get();
            Check.due("telling " + text, Check.tell(y, sort, at, text) >= 0, true);
            return y;
        });
    }

    /** Tells one more of a sort, so that there are two. */
    private static void tellSecond(int sort) {
        tellBesides(sort, NONE, TEXTS[sort]);
    }

    /** From first to last the call is answered, beyond, near and far, it is refused. */
    private static void between(String call, int first, int last, long refusal, Asked asked) {
        for (int n = first - 12; n <= last + 12; n++) {
            if (n % 100 == 0) {
                x = maker.get();
            }
            boolean is = asked.ask(n) == refusal;
            Check.due(call + ", " + n + " is refused", is, n < first || n > last);
        }
        x = maker.get();
        for (int n : FAR) {
            if (n < first || n > last) {
                due(call + ", " + n, asked.ask(n), refusal);
            }
        }
    }

    /** Of none, of one, of two of a sort: the numbers that there are. */
    private static void numbers(String call, int sort, long refusal, Asked asked) {
        use(() -> fullBut(sort));
        between(call + " of none", 0, -1, refusal, asked);
        use(CallEdgesTest::full);
        between(call + " of one", 0, 0, refusal, asked);
        tellSecond(sort);
        between(call + " of two", 0, 1, refusal, asked);
        use(CallEdgesTest::full);
    }

    // ---- promise 1

    private static void newObject() {
        promise(1, "No OFFICES, WEEKS, LOGS; no images.");
        use(SortedOffice::new);
        for (int sort = 0; sort < 3; sort++) {
            due("count", x.count(sort), 0);
            due("none to be replaced", x.text(sort, 0), -2);
        }
        for (int k = 0; k < 3; k++) {
            Check.due("no image", x.again(k), false);
        }
        due("an empty tape", x.end(1), NONE);
        due("no fault", x.fault(0), 0);
        due("no place", x.fault(1), NONE);
        SortedOffice other = Check.with("");
        due("another object is another", x.count(0), 0);
        due("another object has its own", other.count(0), 1);
        Check.sentence("the constants", "NONE = -1: There is none.");
        due("NONE", SortedOffice.NONE, -1);
    }

    // ---- promises 6 to 10

    private static void office() {
        promise(6, "-2: there is none such (of any)");
        numbers("office", Check.OFFICE, -2, n -> x.office(n, 0));
        between("mood", 10, 15, -2, n -> n < 10 || n > 19 ? -2 : x.office(0, n));
        between("home, kind, force, minds, shift", 20, 69, -2, n -> n < 20 ? -2 : x.office(0, n));
        use(LEAST + "letter 0 joy 1;");
        int[] there = {0, 1, 2, 10, 20, 30, 40, 50, 60};
        int at = 0;
        for (int what = 0; what < 100; what++) {
            boolean is = at < there.length && there[at] == what;
            at += is ? 1 : 0;
            Check.due("one house, one letter, " + what, x.office(0, what) == -2, !is);
        }
        promise(6, "-2: for another what");
        between("sizes", 0, 2, -2, n -> n > 9 ? -2 : x.office(0, n));
        between("laws", 100, 115, -2, n -> n < 70 ? -2 : x.office(0, n));
        promise(6, "which one it minds (NONE), SHIFT (NONE), TIMES of a LAW (NONE)");
        for (int l = 0; l < 10; l++) {
            due("minds", x.office(0, 50 + l), l == 0 ? 9 : l == 9 ? 0 : NONE);
            due("shift", x.office(0, 60 + l), l == 0 ? 0 : l == 9 ? 3 : NONE);
        }
        for (int what = 100; what < 116; what++) {
            due("law", x.office(0, what), what == 100 || what == 104 ? 9 : what == 101 ? 0 : NONE);
        }
    }

    private static void doing() {
        promise(7, "-1000: there is none such (of any).");
        numbers("office", Check.OFFICE, -1000, n -> x.doing(n, 0, NONE));
        between("letter", 0, 9, -1000, n -> x.doing(0, n, NONE));
        between("kind", NONE, 3, -1000, n -> x.doing(0, 0, n));
        between("kind, at the last letter", NONE, 3, -1000, n -> x.doing(0, 9, n));
        use(LEAST);
        between("of no letters", 0, -1, -1000, n -> x.doing(0, n, NONE));
        promise(7, "(KIND NONE: nothing came)");
        due("nothing came", x.doing(0, 0, NONE), 9);
        due("no law", x.doing(0, 0, 3), 9);
        due("a law", x.doing(0, 0, 1), 81);
        due("a law of TIMES 0", x.doing(0, 1, 0), 0);
        due("blow", x.doing(0, 1, NONE), -9);
    }

    private static void deed() {
        promise(8, "How many DEEDS (k NONE, what 0)");
        due("how many", x.deed(0, NONE, 0), 4);
        due("none", Check.with("", Check.WEEK, "").deed(0, NONE, 0), 0);
        promise(8, "0 give, 1 slip, 2 burn, 3 night, 1, 2: its numbers (NONE without)");
        int[][] deeds = {{0, 0, NONE}, {1, 1, 5}, {2, 2, NONE}, {3, NONE, NONE}};
        for (int k = 0; k < 4; k++) {
            for (int what = 0; what < 3; what++) {
                due("deed " + k + ", " + what, x.deed(0, k, what), deeds[k][what]);
            }
        }
        promise(8, "-2: there is none such (of either)");
        numbers("week", Check.WEEK, -2, n -> x.deed(n, NONE, 0));
        between("deed, what 0", NONE, 3, -2, n -> x.deed(0, n, 0));
        between("deed, what 1", 0, 3, -2, n -> x.deed(0, n, 1));
        between("deed, what 2", 0, 3, -2, n -> x.deed(0, n, 2));
        use("", Check.WEEK, "");
        between("of an empty week", NONE, NONE, -2, n -> x.deed(0, n, 0));
        promise(8, "-2: for another what");
        between("what", 0, 2, -2, n -> x.deed(0, 1, n));
        between("what, k NONE", 0, 0, -2, n -> x.deed(0, NONE, n));
    }

    private static void till() {
        promise(9, "NONE: there is none such (of either).");
        due("END", x.till(0, 0), 4);
        numbers("office", Check.OFFICE, NONE, n -> x.till(n, 0));
        numbers("week", Check.WEEK, NONE, n -> x.till(0, n));
    }

    private static void state() {
        promise(10, "-1000: there is no such STATE");
        numbers("office", Check.OFFICE, -1000, n -> x.state(n, 0, 0, 0));
        numbers("week", Check.WEEK, -1000, n -> x.state(0, n, 0, 0));
        between("n", 0, 4, -1000, n -> x.state(0, 0, n, 0));
        tellBesides(Check.OFFICE, NONE, LEAST + "letter 0 joy 1;");
        between("n up to END", 0, 1, -1000, n -> x.state(1, 0, n, 0));
        promise(10, "-1000: for another what");
        for (int n = 0; n <= 4; n++) {
            int behind = n;
            between("of all", 0, 4, -1000, what -> what > 9 ? -1000 : x.state(0, 0, behind, what));
            for (int tens = 10; tens <= 30; tens += 10) {
                int least = tens;
                between("of a house", least, least + 5, -1000,
                    what -> what / 10 != least / 10 ? -1000 : x.state(0, 0, behind, what));
            }
            between("beyond", 0, -1, -1000, what -> what > -1 && what < 40 ? -1000 : x.state(0, 0, behind, what));
        }
        use(LEAST, Check.WEEK, "");
        for (int what = -1; what < 50; what++) {
            boolean is = what >= 0 && what < 5 || what == 10 || what == 20 || what == 30;
            Check.due("of one house, " + what, x.state(0, 0, 0, what) == -1000, !is);
        }
        promise(10, "nights, LETTERS LEFT (bits), how many slipped, all that LETTERS DID together, MOODS together");
        // 9 by letter 0; letter 1 slips to HOUSE 5: -9; a night then
        int[][] dues = {{0, 1023, 0, 0, 90}, {0, 1022, 0, 9, 99}, {0, 1020, 1, 0, 90}, {0, 1016, 1, 0, 90},
            {1, 1016, 1, 0, 90}};
        for (int n = 0; n <= 4; n++) {
            for (int what = 0; what < 5; what++) {
                due("state " + n + ", " + what, x.state(0, 0, n, what), dues[n][what]);
            }
        }
        promise(10, "MOOD of a HOUSE, KIND of what came last (NONE), how many came");
        int[][] houses = {{0, NONE, 0, 50, NONE, 0}, {9, 0, 1, 50, NONE, 0}, {9, 0, 1, 41, 1, 1}, {9, 0, 1, 41, 1, 1},
            {10, NONE, 1, 40, NONE, 1}};
        for (int n = 0; n <= 4; n++) {
            for (int i = 0; i < 6; i++) {
                int what = 10 + i % 3 * 10 + (i < 3 ? 0 : 5);
                due("state " + n + ", " + what, x.state(0, 0, n, what), houses[n][i]);
            }
        }
    }

    // ---- promises 11 to 17

    private static void order() {
        promise(11, "-1000: not so many");
        int[] sizes = {2, 2, 1, 1, 1, 3};
        for (int h = 0; h < 6; h++) {
            int house = h;
            between("best", NONE, sizes[h] - 1, -1000, k -> x.order(0, house, false, k));
            between("worst", NONE, sizes[h] - 1, -1000, k -> x.order(0, house, true, k));
        }
        use(LEAST + "letter 0 joy 1;".repeat(10));
        between("ten letters", NONE, 9, -1000, k -> x.order(0, 0, false, k));
        use(LEAST);
        between("no letters", NONE, NONE, -1000, k -> x.order(0, 0, true, k));
        promise(11, "-1000: there is none such (of either)");
        numbers("office", Check.OFFICE, -1000, n -> x.order(n, 0, false, NONE));
        between("house", 0, 5, -1000, n -> x.order(0, n, false, NONE));
        between("house", 0, 5, -1000, n -> x.order(0, n, true, 0));
        use(LEAST);
        between("one house", 0, 0, -1000, n -> x.order(0, n, false, NONE));
        promise(11, "the MOOD (k NONE), or the k-th LETTER");
        int[][] best = {{72, 1, 0}, {14, 2, 3}, {10, 4}, {11, 5}, {9, 6}, {203, 9, 7, 8}};
        int[][] worst = {{9, 0, 1}, {14, 2, 3}, {10, 4}, {11, 5}, {9, 6}, {140, 7, 8, 9}};
        for (int h = 0; h < 6; h++) {
            for (int k = NONE; k < sizes[h]; k++) {
                due("best " + h + ", " + k, x.order(0, h, false, k), best[h][k + 1]);
                due("worst " + h + ", " + k, x.order(0, h, true, k), worst[h][k + 1]);
            }
        }
    }

    private static void meanAndSpared() {
        promise(12, "-1000000000000: there is none such (of either).");
        for (boolean under : new boolean[] {false, true}) {
            numbers("office", Check.OFFICE, NO_FRACTION, n -> x.mean(n, 0, under));
            between("house", 0, 5, NO_FRACTION, n -> x.mean(0, n, under));
        }
        promise(12, "MEAN of a HOUSE, N, or (under) D.");
        long[][] dues = {{81, 2}, {14, 1}, {10, 1}, {11, 1}, {9, 1}, {161, 1}};
        for (int h = 0; h < 6; h++) {
            due("mean " + h, x.mean(0, h, false), dues[h][0]);
            due("mean " + h + ", under", x.mean(0, h, true), dues[h][1]);
        }
        promise(13, "NONE: there is none such (of either)");
        for (boolean under : new boolean[] {false, true}) {
            numbers("office", Check.OFFICE, NONE, n -> x.spared(n, 0, 5, 0, under));
            between("house", 0, 5, NONE, n -> x.spared(0, n, 5, 0, under));
        }
        promise(13, "NONE: other numbers");
        for (boolean under : new boolean[] {false, true}) {
            between("p", 0, 10, NONE, n -> x.spared(0, 0, n, 0, under));
            between("p", 0, 10, NONE, n -> x.spared(0, 0, n, 99, under));
            between("m", 0, 99, NONE, n -> x.spared(0, 5, 0, n, under));
            between("m", 0, 99, NONE, n -> x.spared(0, 5, 10, n, under));
        }
        promise(13, "SPARED, N, or (under) D.");
        long[][] spared = {{0, 5, 0, 3, 4}, {0, 5, 9, 1, 2}, {4, 1, 10, 1, 10}, {4, 9, 10, 9, 10}, {4, 0, 10, 0, 1},
            {5, 0, 99, 1, 1}, {5, 10, 99, 0, 1}, {5, 10, 50, 1, 1}, {5, 10, 51, 0, 1}};
        for (long[] s : spared) {
            String call = "spared " + s[0] + ", " + s[1] + ", " + s[2];
            due(call, x.spared(0, (int) s[0], (int) s[1], (int) s[2], false), s[3]);
            due(call + ", under", x.spared(0, (int) s[0], (int) s[1], (int) s[2], true), s[4]);
        }
    }

    private static void racks() {
        promise(14, "The rack of a LETTER behind n rounds, 0 .. 999.");
        int[][] dues = {{0, 0, 1}, {1, 1, 3}, {2, 3, 0}, {7, 2, 0}, {8, 0, 1}, {992, 0, 1}, {998, 1, 2}, {999, 2, 0}};
        for (int[] d : dues) {
            due("letter 0 behind " + d[0], x.rack(0, 0, d[0]), d[1]);
            due("letter 9 behind " + d[0], x.rack(0, 9, d[0]), d[2]);
        }
        promise(14, "NONE: another n");
        between("n", 0, 999, NONE, n -> x.rack(0, 0, n));
        promise(14, "NONE: there is none such (of either)");
        numbers("office", Check.OFFICE, NONE, n -> x.rack(n, 0, 0));
        between("letter", 0, 9, NONE, n -> x.rack(0, n, 0));
        between("letter", 0, 9, NONE, n -> x.rack(0, n, 999));
        use(LEAST);
        between("of no letters", 0, -1, NONE, n -> x.rack(0, n, 0));

        promise(15, "What 0: SETTLED (NONE: never), 1: AGAIN, 2: BLIND (bits).");
        due("settled", x.settled(0, 0), NONE);
        due("again", x.settled(0, 1), 8);
        due("blind", x.settled(0, 2), 513);
        tellBesides(Check.OFFICE, NONE, "");
        due("settled, without letters", x.settled(1, 0), 0);
        due("again, without letters", x.settled(1, 1), 1);
        due("blind, without letters", x.settled(1, 2), 0);
        due("blind, with them again", x.settled(0, 2), 513);
        due("blind, without them again", x.settled(1, 2), 0);
        due("loose, without letters", x.ruled(1, 2), 0);
        promise(15, "-2: there is none such, or for another what.");
        numbers("office", Check.OFFICE, -2, n -> x.settled(n, 0));
        numbers("office", Check.OFFICE, -2, n -> x.settled(n, 2));
        between("what", 0, 2, -2, n -> x.settled(0, n));
    }

    private static void bags() {
        promise(16, "NONE: a LETTER's FORCE is above it");
        between("force", 9, 99, NONE, n -> x.bags(0, n, 10, NONE));
        between("force", 9, 99, NONE, n -> x.bags(0, n, 1, 9));
        for (int force = 1; force <= 9; force++) {
            SortedOffice one = Check.with("letter 0 nothing " + force + ";");
            for (int most = 1; most <= 10; most++) {
                due("force " + force + " by " + most, one.bags(0, most, 1, NONE), most < force ? NONE : 1);
                due("force " + force + " by " + most, one.bags(0, most, 1, 0), most < force ? NONE : 0);
            }
        }
        promise(16, "NONE: other numbers");
        use("letter 0 joy 1;");
        between("force", 1, 99, NONE, n -> x.bags(0, n, 1, NONE));
        between("n", 1, 10, NONE, n -> x.bags(0, 1, n, NONE));
        between("n", 1, 10, NONE, n -> x.bags(0, 99, n, 0));
        use("");
        between("force, no letters", 1, 99, NONE, n -> x.bags(0, n, 1, NONE));
        between("n, no letters", 1, 10, NONE, n -> x.bags(0, 1, n, NONE));
        promise(16, "NONE: there is none such (of either)");
        numbers("office", Check.OFFICE, NONE, n -> x.bags(n, 99, 10, NONE));
        between("letter", NONE, 9, NONE, n -> x.bags(0, 99, 10, n));
        between("letter", NONE, 9, NONE, n -> x.bags(0, 9, 1, n));
        use("");
        between("letter, no letters", NONE, NONE, NONE, n -> x.bags(0, 99, 10, n));
        promise(16, "how many days (k NONE), or the day of LETTER k");
        int[][] dues = {{9, 10, 3, 0, 1, 0, 1, 0, 0, 0, 0, 1, 2}, {26, 10, 2, 0, 0, 0, 0, 0, 0, 0, 0, 0, 1},
            {27, 10, 1, 0, 0, 0, 0, 0, 0, 0, 0, 0, 0}, {99, 9, 2, 0, 0, 0, 0, 0, 0, 0, 0, 0, 1},
            {99, 1, 10, 0, 1, 2, 3, 4, 5, 6, 7, 8, 9}};
        for (int[] d : dues) {
            for (int k = NONE; k < 10; k++) {
                due("bags " + d[0] + ", " + d[1] + ", " + k, x.bags(0, d[0], d[1], k), d[3 + k]);
            }
        }
    }

    private static void sorters() {
        promise(17, "-1000: there is none such.");
        numbers("office", Check.OFFICE, -1000, n -> x.sorters(n, false));
        numbers("office", Check.OFFICE, -1000, n -> x.sorters(n, true));
        promise(17, "by how much, or (first) what the first one takes (NONE without LETTERS)");
        use(LEAST);
        due("by how much, without letters", x.sorters(0, false), 0);
        due("first, without letters", x.sorters(0, true), NONE);
        use("letter 0 blow 1;letter 0 joy 1;");
        due("by how much", x.sorters(0, false), 2);
        due("first", x.sorters(0, true), 1);
    }

    // ---- promises 18 to 20

    private static void fact() {
        promise(18, "How many FACTS (k NONE, what 0); of FACT k, what 0: the HOUSE, 1: the MOOD.");
        int[][] dues = {{NONE, 0, 2}, {0, 0, 3}, {0, 1, 11}, {1, 0, 2}, {1, 1, 10}};
        for (int[] d : dues) {
            due("fact " + d[0] + ", " + d[1], x.fact(0, d[0], d[1]), d[2]);
        }
        due("none", Check.with("", Check.LOG, "").fact(0, NONE, 0), 0);
        promise(18, "-2: there is none such (of either)");
        numbers("log", Check.LOG, -2, n -> x.fact(n, NONE, 0));
        between("fact, what 0", NONE, 1, -2, n -> x.fact(0, n, 0));
        between("fact, what 1", 0, 1, -2, n -> x.fact(0, n, 1));
        promise(18, "-2: for another what");
        between("what", 0, 1, -2, n -> x.fact(0, 1, n));
        between("what, k NONE", 0, 0, -2, n -> x.fact(0, NONE, n));
    }

    /** One FACT of eight is of a HOUSE, the others are of the first. */
    private static void houseOfFact(int houses, int house, int at) {
        String log = "mood 0 10;".repeat(at) + "mood " + house + " 10;" + "mood 0 10;".repeat(7 - at);
        SortedOffice y = Check.with("houses " + houses + ";", Check.LOG, log);
        for (int what : new int[] {0, 1, 2, 3, 10}) {
            Check.due("house " + house + " of " + houses + ", " + what, y.fits(0, 0, what) == -2, house >= houses);
        }
    }

    private static void fits() {
        promise(19, "-2: there is none such (of any)");
        numbers("office", Check.OFFICE, -2, n -> x.fits(n, 0, 0));
        numbers("log", Check.LOG, -2, n -> x.fits(0, n, 0));
        int found = (int) x.fits(0, 0, 0);
        between("k", 10, 9 + found, -2, n -> n < 10 ? -2 : x.fits(0, 0, n));
        tellBesides(Check.LOG, 0, "mood 2 11;mood 2 10;");
        due("nothing fits", x.fits(0, 0, 0), 0);
        between("of nothing that fits", 0, 3, -2, n -> x.fits(0, 0, n));
        promise(19, "-2: for another what");
        between("what", 0, 3, -2, n -> n > 9 ? -2 : x.fits(0, 0, n));
        promise(19, "-2: a HOUSE that was told of is not there");
        for (int houses = 1; houses <= 6; houses++) {
            for (int h = 0; h < 6; h++) {
                for (int at = 0; at < 8; at++) {
                    houseOfFact(houses, h, at);
                }
            }
        }
        promise(19, "1, 2: SURE of the LETTER, of the HOUSE (NONE: not one), 3: ASK (NONE: nothing FITS), 10 + k: the k-th");
        use("houses 2;letter 0 joy 1;", Check.LOG, "");
        int[] all = {2, NONE, NONE, 0};
        int[] one = {1, 0, 1, 0};
        int[] none = {0, NONE, NONE, NONE};
        for (int what = 0; what < 4; what++) {
            due("two fit", x.fits(0, 0, what), all[what]);
        }
        due("the last is 99", x.fits(0, 0, 11), 99);
        due("one fits", Check.tell(x, Check.LOG, 0, "mood 1 11;"), 0);
        for (int what = 0; what < 4; what++) {
            due("one fits", x.fits(0, 0, what), one[what]);
        }
        due("which", x.fits(0, 0, 10), 10);
        due("none fits", Check.tell(x, Check.LOG, 0, "mood 1 12;"), 0);
        for (int what = 0; what < 4; what++) {
            due("none fits", x.fits(0, 0, what), none[what]);
        }
    }

    private static void drawn() {
        promise(20, "-1000: there is none such");
        numbers("office", Check.OFFICE, -1000, n -> x.drawn(n, 1, 0, 0));
        promise(20, "-1000: another n");
        for (int seed : new int[] {MIN, -1, 0, 1, MAX}) {
            between("n", 0, 60, -1000, n -> x.drawn(0, seed, n, 0));
        }
        promise(20, "-1000: for another what");
        between("of all", 0, 4, -1000, n -> n > 9 ? -1000 : x.drawn(0, 1, 60, n));
        for (int tens = 10; tens <= 30; tens += 10) {
            int least = tens;
            between("of a house", least, least + 5, -1000, n -> n / 10 != least / 10 ? -1000 : x.drawn(0, 1, 60, n));
        }
        between("beyond", 0, -1, -1000, n -> n > -1 && n < 40 ? -1000 : x.drawn(0, 1, 60, n));
        promise(20, "DRAWN, n times, what as state()");
        for (int seed : new int[] {MIN, -1, 0, 1, MAX}) {
            int[] whats = {0, 1, 2, 3, 4, 10, 15, 20, 25, 30, 35};
            int[] dues = {0, 1023, 0, 0, 90, 0, 50, NONE, NONE, 0, 0};
            for (int i = 0; i < whats.length; i++) {
                due("no times, " + whats[i], x.drawn(0, seed, 0, whats[i]), dues[i]);
            }
        }
    }

    // ---- promises 21 to 30

    private static void dearSpoiltCalm() {
        promise(21, "-1000: there is none such (of either).");
        numbers("office", Check.OFFICE, -1000, n -> x.dear(n, 0));
        between("letter", 0, 9, -1000, n -> x.dear(0, n));
        use(LEAST);
        between("of no letters", 0, -1, -1000, n -> x.dear(0, n));
        promise(21, "DEAR.");
        int[] dear = {81, 63, 0, 4, 0, 1, -1, 81, 81, 63};
        for (int l = 0; l < 10; l++) {
            due("dear " + l, x.dear(0, l), dear[l]);
        }
        promise(22, "-1000: there is none such (of either).");
        for (boolean lowest : new boolean[] {false, true}) {
            numbers("office", Check.OFFICE, -1000, n -> x.spoilt(n, 0, lowest));
            between("house", 0, 5, -1000, n -> x.spoilt(0, n, lowest));
            use(LEAST);
            between("one house", 0, 0, -1000, n -> x.spoilt(0, n, lowest));
            use(CallEdgesTest::full);
        }
        promise(22, "SPOILT, or (lowest) LOWEST of a HOUSE.");
        int[] spoilt = {63, 0, 0, 0, 0, 63};
        int[] lows = {0, 10, 10, 10, 9, 50};
        for (int h = 0; h < 6; h++) {
            due("spoilt " + h, x.spoilt(0, h, false), spoilt[h]);
            due("lowest " + h, x.spoilt(0, h, true), lows[h]);
        }
        promise(23, "NONE: there is none such (of either)");
        for (boolean which : new boolean[] {false, true}) {
            numbers("office", Check.OFFICE, NONE, n -> x.calm(n, 0, 0, which));
            between("house", 0, 5, NONE, n -> x.calm(0, n, 0, which));
        }
        promise(23, "NONE: by none, another MOOD");
        for (boolean which : new boolean[] {false, true}) {
            int[] moods = {0, 10, 10, 10, 10, 50};
            for (int h = 0; h < 6; h++) {
                int house = h;
                between("house " + h, 0, moods[h], NONE, n -> x.calm(0, house, n, which));
            }
        }
        due("how many", x.calm(0, 4, 10, false), 1);
        due("which", x.calm(0, 4, 10, true), 64);
    }

    private static void hoped() {
        promise(24, "-1000000000000: n is above LETTERS, below 0");
        for (boolean under : new boolean[] {false, true}) {
            between("n", 0, 10, NO_FRACTION, n -> x.hoped(0, n, under));
            for (int letters = 0; letters < 10; letters++) {
                SortedOffice y = Check.with("letter 0 joy 1;".repeat(letters));
                between("n of " + letters, 0, letters, NO_FRACTION, n -> y.hoped(0, n, under));
            }
        }
        promise(24, "-1000000000000: there is none such");
        numbers("office", Check.OFFICE, NO_FRACTION, n -> x.hoped(n, 0, false));
        numbers("office", Check.OFFICE, NO_FRACTION, n -> x.hoped(n, 0, true));
        promise(24, "HOPED of n, N, or (under) D.");
        int[][] dues = {{0, 90, 1}, {1, 913, 10}, {10, 193, 1}};
        for (int[] d : dues) {
            due("hoped " + d[0], x.hoped(0, d[0], false), d[1]);
            due("hoped " + d[0] + ", under", x.hoped(0, d[0], true), d[2]);
        }
    }

    private static void strongestAndSwapped() {
        promise(25, "NONE: no LAWS, or there is none such.");
        for (boolean much : new boolean[] {false, true}) {
            numbers("office", Check.OFFICE, NONE, n -> x.strongest(n, much));
            due("no laws", Check.with("letter 0 joy 1;letter 0 joy 1;").strongest(0, much), NONE);
        }
        promise(25, "STRONGEST: the LAW, or (much) by how much.");
        due("the law", x.strongest(0, false), 104);
        due("by how much", x.strongest(0, true), 126);
        promise(26, "-1000: there is none such.");
        numbers("office", Check.OFFICE, -1000, n -> x.swapped(n, false));
        numbers("office", Check.OFFICE, -1000, n -> x.swapped(n, true));
        promise(26, "SWAPPED: the couple (NONE: none), or (much) how much.");
        use(LEAST);
        due("none", x.swapped(0, false), NONE);
        due("as it is", x.swapped(0, true), 10);
        use("houses 2;" + "letter 0 nothing 1;".repeat(8) + "letter 1 joy 1;letter 0 blow 2;law nothing joy 9;");
        due("the couple", x.swapped(0, false), 8);
        due("how much", x.swapped(0, true), 27);
        use("houses 2;mood 0 0;" + "letter 0 joy 1;".repeat(8) + "letter 0 joy 1;letter 1 blow 1;law blow joy 9;"
            + "law joy joy 0;");
        due("the couple", x.swapped(0, false), 9);
        due("how much", x.swapped(0, true), 0 + 1 - 1 + 9 + 10 + 1);
        due("nothing has changed", x.office(0, 20), 0);
        due("nothing has changed", x.office(0, 29), 1);
    }

    private static void strike() {
        promise(27, "NONE: k is above LETTERS, another k");
        for (boolean under : new boolean[] {false, true}) {
            between("k", 0, 3, NONE, k -> x.strike(0, k, under));
            for (int letters = 0; letters <= 4; letters++) {
                SortedOffice y = Check.with("letter 0 joy 1;".repeat(letters));
                between("k of " + letters, 0, Math.min(3, letters), NONE, k -> y.strike(0, k, under));
            }
        }
        promise(27, "NONE: there is none such");
        numbers("office", Check.OFFICE, NONE, n -> x.strike(n, 0, false));
        numbers("office", Check.OFFICE, NONE, n -> x.strike(n, 0, true));
        promise(27, "STRIKE of k, 0 .. 3, N, or (under) D.");
        due("a blow alone", x.strike(0, 0, false), 0);
        due("a blow alone, under", x.strike(0, 0, true), 1);
    }

    private static void ruled() {
        promise(28, "NONE: there is none such (of either)");
        for (int what : new int[] {0, 1, 2, 3, 10}) {
            numbers("office", Check.OFFICE, NONE, n -> x.ruled(n, what));
        }
        for (int houses = 1; houses <= 6; houses++) {
            use("houses " + houses + ";");
            between("ranked of " + houses, 10, 9 + houses, NONE, n -> n < 10 ? NONE : x.ruled(0, n));
        }
        promise(28, "NONE: for another what");
        between("what", 0, 3, NONE, n -> n > 9 ? NONE : x.ruled(0, n));
        promise(28, "What 0: RULED, 1: FOLLOW, 2: LOOSE (bits), 3: TOUCHED, 10 + k: RANKED.");
        int[] dues = {4, 2, 1, 2};
        int[] ranked = {5, 0, 1, 3, 2, 4};
        for (int what = 0; what < 4; what++) {
            due("ruled " + what, x.ruled(0, what), dues[what]);
        }
        for (int k = 0; k < 6; k++) {
            due("ranked " + k, x.ruled(0, 10 + k), ranked[k]);
        }
    }

    private static void after() {
        promise(29, "-1000: there is none such (of either)");
        for (int what = 0; what < 4; what++) {
            int asked = what;
            numbers("office", Check.OFFICE, -1000, n -> x.after(n, 0, asked));
            numbers("week", Check.WEEK, -1000, n -> x.after(0, n, asked));
        }
        promise(29, "-1000: for another what");
        between("what", 0, 3, -1000, n -> x.after(0, 0, n));
        promise(29, "What 0: GRIEVED, 1: how low, 2: FAILED (bits), 3: IDLE.");
        int[] dues = {0, 0, 0, 0};
        for (int what = 0; what < 4; what++) {
            due("after " + what, x.after(0, 0, what), dues[what]);
        }
        due("another week", Check.tell(x, Check.WEEK, 0, "give 7;slip 1 5;give 4;slip 6 0;"), 0);
        int[] others = {0, -1, 2, 2};
        for (int what = 0; what < 4; what++) {
            due("after " + what, x.after(0, 0, what), others[what]);
        }
        due("a week without deeds", Check.tell(x, Check.WEEK, NONE, ""), 1);
        for (int what = 0; what < 4; what++) {
            due("after " + what + ", no deeds", x.after(0, 1, what), 0);
            due("after " + what + ", once more", x.after(0, 0, what), others[what]);
        }
    }

    private static void then() {
        promise(30, "-1000: there is none such (of any)");
        numbers("office", Check.OFFICE, -1000, n -> x.then(n, 0, 0, 0));
        numbers("log", Check.LOG, -1000, n -> x.then(0, n, 0, 0));
        between("house", 0, 5, -1000, n -> x.then(0, 0, 0, n));
        for (int houses = 1; houses <= 6; houses++) {
            use("houses " + houses + ";", Check.LOG, "");
            between("house of " + houses, 0, houses - 1, -1000, n -> x.then(0, 0, 0, n));
        }
        use(FULL, Check.LOG, "");
        between("house, the last that fits", 0, 5, -1000, n -> x.then(0, 0, 50, n));
        promise(30, "-1000: not so many FIT");
        use(FULL, Check.LOG, "");
        between("k", 0, 50, -1000, n -> x.then(0, 0, n, 0));
        use(LEAST, Check.LOG, "");
        between("k, one fits", 0, 0, -1000, n -> x.then(0, 0, n, 0));
        use(LEAST, Check.LOG, "mood 0 9;");
        between("k, nothing fits", 0, -1, -1000, n -> x.then(0, 0, n, 0));
        use(LEAST, Check.LOG, "mood 1 10;");
        between("k, a house is not there", 0, -1, -1000, n -> x.then(0, 0, n, 0));
    }

    // ---- promises 31 to 33

    private static void count() {
        promise(31, "How many there are of a sort. -2 for another one.");
        for (int sort = 0; sort < 3; sort++) {
            use(SortedOffice::new);
            for (int n = 0; n < 3; n++) {
                due("count " + sort, x.count(sort), n);
                due("of the next sort", x.count((sort + 1) % 3), 0);
                due("of the one behind", x.count((sort + 2) % 3), 0);
                due("tell", Check.tell(x, sort, NONE, ""), n < 2 ? n : -2);
            }
            due("count " + sort, x.count(sort), 2);
        }
        between("sort", 0, 2, -2, n -> x.count(n));
    }

    private static void useImage(int k, boolean made) {
        use(() -> {
            SortedOffice y = full();
            Check.due("image " + k, y.image(k), made);
            return y;
        });
    }

    private static void images() {
        promise(32, "Image k (0 .. 2): true; false for another k.");
        between("image", 0, 2, 0, k -> x.image(k) ? 1 : 0);
        promise(33, "true; false if there is none such.");
        between("again of none", 0, -1, 0, k -> x.again(k) ? 1 : 0);
        for (int k = 0; k < 3; k++) {
            useImage(k, true);
            between("again of one", k, k, 0, n -> x.again(n) ? 1 : 0);
        }
        for (int k : new int[] {MIN, -1, 3, MAX}) {
            useImage(k, false);
            between("again of what was refused", 0, -1, 0, n -> x.again(n) ? 1 : 0);
        }
        promise(33, "false if there is none such: nothing changes then");
        x.image(1);
        Check.tell(x, Check.OFFICE, 0, LEAST);
        Check.put(x, "night;");
        Check.due("again 0", x.again(0), false);
        Check.due("again 3", x.again(3), false);
        due("what is told", x.office(0, 0), 1);
        due("the tape", x.end(7), NONE);
        due("the tape", x.end(6), 6);
    }

    private static void imagesOfAll() {
        promise(32, "all that is told (the tape, the FAULT, too), as it is now");
        due("a fault", Check.tell(x, Check.WEEK, NONE, "night;?"), NONE);
        Check.put(x, "night;night");
        for (int k = 0; k < 3; k++) {
            Check.due("image", x.image(k), true);
        }
        changeAll();
        for (int k = 0; k < 3; k++) {
            Check.due("again", x.again(k), true);
            asAtImage();
            changeAll();
        }
        promise(32, "as it is now: an image is made anew");
        Check.due("image of the empty object", new SortedOffice().image(0), true);
        use(SortedOffice::new);
        x.image(0);
        x.image(1);
        due("an office", Check.tell(x, Check.OFFICE, NONE, ""), 0);
        x.image(1);
        Check.due("again", x.again(0), true);
        due("no office", x.count(0), 0);
        due("no such office", x.office(0, 0), -2);
        Check.due("again", x.again(1), true);
        due("one office", x.count(0), 1);
        promise(33, "All that is as image k has it");
        use(SortedOffice::new);
        x.image(2);
        Check.tell(x, Check.LOG, NONE, "?");
        Check.put(x, "mood 0 1;");
        Check.due("again", x.again(2), true);
        due("no fault", x.fault(0), 0);
        due("no place", x.fault(1), NONE);
        due("no tape", x.end(1), NONE);
        Check.due("again, once more", x.again(2), true);
        Check.due("no other image", x.again(0), false);
    }

    private static void changeAll() {
        Check.tell(x, Check.OFFICE, 0, LEAST);
        Check.tell(x, Check.OFFICE, NONE, LEAST);
        Check.tell(x, Check.WEEK, 0, "");
        Check.tell(x, Check.WEEK, NONE, "");
        Check.tell(x, Check.LOG, 0, "");
        Check.tell(x, Check.LOG, NONE, "");
        Check.put(x, "other bytes of another text, and more of them");
    }

    private static void asAtImage() {
        for (int sort = 0; sort < 3; sort++) {
            due("count " + sort, x.count(sort), 1);
        }
        due("fault", x.fault(0), 1);
        due("place", x.fault(1), 6);
        int[][] dues = {{0, 6}, {1, 10}, {2, 3}, {10, 0}, {15, 50}, {29, 5}, {39, 1}, {49, 9}, {50, 9}, {69, 3}, {104, 9}};
        for (int[] d : dues) {
            due("office " + d[0], x.office(0, d[0]), d[1]);
        }
        due("deeds", x.deed(0, NONE, 0), 4);
        due("till", x.till(0, 0), 4);
        due("facts", x.fact(0, NONE, 0), 2);
        due("fact", x.fact(0, 0, 1), 11);
        due("more than the tape has", x.end(12), NONE);
        due("the tape", x.end(11), 11);
        due("the text", x.text(Check.WEEK, NONE), NONE);
        due("its end", x.fault(1), 11);
    }

    private static void calls() {
        Check.sentence("what it is", "An object is used for at most 512 calls after it has been made");
        use(SortedOffice::new);
        int n = 0;
        for (; n < 501; n += 3) {
            due("feed", x.feed(0x686f7573, 0x65732034, 0x3b202020, 0x20202020, 0x20202020), 20);
            due("text", x.text(Check.OFFICE, n == 0 ? NONE : 0), 0);
            Check.due("image", x.image(n % 3), true);
        }
        for (; n < 511; n++) {
            due("hoped", x.hoped(0, 0, false), 40);
        }
        Check.due("the 512th", x.again(0), true);
    }
}

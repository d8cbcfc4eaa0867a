/** Terms 2 to 6: each sentence that names an edge of what LETTERS DO, of WEEKS, orders, racks, bags, LOGS, chances. */
public final class TermEdgesTest {
    private static final int NONE = SortedOffice.NONE;
    private static final int WEEK = Check.WEEK;
    private static final int LOG = Check.LOG;
    private static final String[] KINDS = {"joy", "blow", "money", "nothing"};

    public static void main(String[] args) {
        does();
        behindWhat();
        moods();
        weekBegins();
        deeds();
        nights();
        ends();
        orders();
        means();
        spared();
        racks();
        settled();
        bags();
        sorters();
        slips();
        asked();
        drawn();
        dear();
        calm();
        hoped();
        strongest();
        swapped();
        strike();
        ruled();
        loose();
        ranked();
        grieved();
        failed();
        Check.finish();
    }

    private static void due(String call, long got, long want) {
        Check.due(call, got, want);
    }

    private static void edge(int term, String words) {
        Check.sentence("term " + term, words);
    }

    private static SortedOffice week(String office, String week) {
        return Check.with(office, WEEK, week);
    }

    private static SortedOffice log(String office, String log) {
        return Check.with(office, LOG, log);
    }

    private static void state(SortedOffice x, int n, int... dues) {
        for (int i = 0; i < dues.length; i += 2) {
            due("state " + n + ", " + dues[i], x.state(0, 0, n, dues[i]), dues[i + 1]);
        }
    }

    // ---- term 2

    private static int plain(int kind, int force) {
        int[] halves = {0, 0, 1, 1, 2, 2, 3, 3, 4, 4};
        return kind == 0 ? force : kind == 1 ? -force : kind == 2 ? halves[force] : 0;
    }

    private static void does() {
        edge(2, "JOY: its FORCE, BLOW: as much below 0, MONEY: half of it (cut), NOTHING: 0");
        for (int kind = 0; kind < 4; kind++) {
            for (int force = 1; force <= 9; force++) {
                SortedOffice x = Check.with("letter 0 " + KINDS[kind] + " " + force + ";");
                due(KINDS[kind] + " " + force, x.doing(0, 0, NONE), plain(kind, force));
            }
        }
        edge(2, "TIMES as much, if there is a LAW");
        for (int kind = 0; kind < 4; kind++) {
            for (int times = 0; times <= 9; times++) {
                for (int force = 1; force <= 9; force += 4) {
                    SortedOffice x = Check.with("letter 0 " + KINDS[kind] + " " + force + ";law nothing " + KINDS[kind]
                        + " " + times + ";");
                    String call = KINDS[kind] + " " + force + ", " + times + " times";
                    due(call, x.doing(0, 0, 3), times * plain(kind, force));
                    due(call + ", no law", x.doing(0, 0, kind == 3 ? 0 : kind), plain(kind, force));
                    due(call + ", nothing came", x.doing(0, 0, NONE), plain(kind, force));
                }
            }
        }
    }

    private static void behindWhat() {
        edge(2, "a LAW of the KIND of the LETTER that came to that HOUSE last ahead of it, and of its own");
        String office = "houses 2;letter 0 joy 1;letter 0 blow 1;letter 0 money 8;letter 1 joy 1;letter 1 blow 1;"
            + "law joy blow 5;";
        state(week(office, "give 0;give 1;"), 2, 3, 1 - 5);
        // turned round it is another LAW
        state(week(office, "give 1;give 0;"), 2, 3, 0);
        // one between
        state(week(office, "give 0;give 2;give 1;"), 3, 3, 1 + 4 - 1);
        // what came to another HOUSE
        state(week(office, "give 0;give 4;"), 2, 3, 0);
        state(week(office, "give 3;give 0;give 4;give 1;"), 4, 3, 1 + 1 - 5 - 5);
        // it slips: what came last there, not at home
        state(week(office, "give 0;slip 1 1;"), 2, 3, 0);
        state(week(office, "give 3;slip 1 1;"), 2, 3, 1 - 5, 11, 10 + 1 - 5);
        // what slipped there came, too
        state(week(office, "slip 3 0;give 1;"), 2, 3, 1 - 5, 10, 10 + 1 - 5);
        // what was burnt did not come
        state(week(office, "burn 0;give 1;"), 2, 3, -1);
        state(week(office, "give 0;burn 2;give 1;"), 3, 3, 1 - 5);
    }

    private static void moods() {
        edge(2, "A HOUSE's MOOD goes up by it (down, below 0, too).");
        SortedOffice low = week("houses 1;mood 0 0;" + "letter 0 blow 9;".repeat(10) + "law blow blow 9;",
            "give 0;give 1;give 2;give 3;give 4;give 5;give 6;give 7;give 8;give 9;");
        state(low, 1, 10, -9, 4, -9, 3, -9);
        state(low, 10, 10, -9 - 9 * 81, 4, -9 - 9 * 81, 3, -9 - 9 * 81);
        SortedOffice high = week("houses 1;mood 0 50;" + "letter 0 joy 9;".repeat(10) + "law joy joy 9;",
            "give 0;give 1;give 2;give 3;give 4;give 5;give 6;give 7;give 8;give 9;");
        state(high, 1, 10, 59);
        state(high, 10, 10, 59 + 9 * 81, 4, 59 + 9 * 81, 3, 9 + 9 * 81);
    }

    private static void weekBegins() {
        edge(2, "A WEEK of an OFFICE begins with all LETTERS LEFT, nothing having come.");
        for (int n = 0; n <= 10; n++) {
            SortedOffice x = week("houses 6;" + "letter 5 joy 1;".repeat(n), "");
            state(x, 0, 0, 0, 1, (1 << n) - 1, 2, 0, 3, 0, 4, 60, 10, 10, 15, 10, 20, NONE, 25, NONE, 30, 0, 35, 0);
        }
    }

    private static void deeds() {
        String two = "houses 2;letter 0 joy 3;letter 1 blow 2;";
        edge(2, "give: a LETTER that is LEFT comes to its HOUSE.");
        state(week(two, "give 1;"), 1, 1, 1, 2, 0, 10, 10, 11, 8, 20, NONE, 21, 1, 30, 0, 31, 1);
        due("not LEFT any more", week(two, "give 1;give 1;").till(0, 0), 1);
        due("slipped ahead", week(two, "slip 1 0;give 1;").till(0, 0), 1);
        due("burnt ahead", week(two, "burn 1;give 1;").till(0, 0), 1);
        due("a night gives nothing back", week(two, "give 1;night;give 1;").till(0, 0), 2);

        edge(2, "slip: it comes to another HOUSE than its own.");
        state(week(two, "slip 1 0;"), 1, 1, 1, 2, 1, 10, 8, 11, 10, 20, 1, 21, NONE, 30, 1, 31, 0);
        due("its own", week(two, "slip 1 1;").till(0, 0), 0);
        due("not LEFT any more", week(two, "slip 1 0;slip 1 0;").till(0, 0), 1);
        due("given ahead", week(two, "give 1;slip 1 0;").till(0, 0), 1);
        due("burnt ahead", week(two, "burn 1;slip 1 0;").till(0, 0), 1);
        due("one house has no other", week("houses 1;letter 0 joy 1;", "slip 0 0;").till(0, 0), 0);

        edge(2, "burn: a LETTER that is LEFT comes nowhere.");
        state(week(two, "burn 1;"), 1, 1, 1, 2, 0, 3, 0, 4, 20, 21, NONE, 31, 0, 20, NONE, 30, 0);
        due("not LEFT any more", week(two, "burn 1;burn 1;").till(0, 0), 1);
        due("given ahead", week(two, "give 1;burn 1;").till(0, 0), 1);
        due("slipped ahead", week(two, "slip 1 0;burn 1;").till(0, 0), 1);

        edge(2, "A DEED can't be, if there is no such LETTER, HOUSE");
        for (int n = 0; n <= 10; n++) {
            String office = "houses 2;" + "letter 0 joy 1;".repeat(n);
            for (int l = 0; l < 10; l++) {
                int end = l < n ? 1 : 0;
                due("give " + l + " of " + n, week(office, "give " + l + ";").till(0, 0), end);
                due("slip " + l + " of " + n, week(office, "slip " + l + " 1;").till(0, 0), end);
                due("burn " + l + " of " + n, week(office, "burn " + l + ";").till(0, 0), end);
            }
        }
        for (int n = 1; n <= 6; n++) {
            for (int h = 0; h < 6; h++) {
                due("slip to " + h + " of " + n, week("houses " + n + ";letter 0 joy 1;", "slip 0 " + h + ";").till(0, 0),
                    h > 0 && h < n ? 1 : 0);
            }
        }
    }

    private static void nights() {
        edge(2, "night: each MOOD above 10 is 1 less, each below 10 is 1 more");
        SortedOffice x = week("houses 6;mood 0 0;mood 1 9;mood 2 10;mood 3 11;mood 4 12;mood 5 50;", "night;".repeat(40));
        int[][] dues = {{0, 9, 10, 11, 12, 50}, {1, 10, 10, 10, 11, 49}, {2, 10, 10, 10, 10, 48}};
        for (int n = 0; n < 3; n++) {
            for (int h = 0; h < 6; h++) {
                due("behind " + n, x.state(0, 0, n, 10 + h), dues[n][h]);
            }
        }
        state(x, 10, 0, 10, 10, 10);
        state(x, 11, 10, 10);
        state(x, 39, 15, 11);
        state(x, 40, 0, 40, 15, 10, 4, 60, 3, 0);
        SortedOffice low = week("mood 0 0;letter 0 blow 1;", "give 0;night;night;");
        state(low, 1, 10, -1);
        state(low, 2, 10, 0, 3, -1);
        state(low, 3, 10, 1);

        edge(2, "what came last is as if nothing had");
        SortedOffice y = week("houses 2;letter 0 joy 4;letter 0 joy 2;letter 1 joy 1;law joy joy 9;",
            "give 0;give 2;night;give 1;");
        state(y, 2, 20, 0, 21, 0);
        state(y, 3, 20, NONE, 21, NONE, 30, 1, 31, 1);
        state(y, 4, 3, 7, 10, 15, 20, 0);
    }

    private static void ends() {
        String two = "houses 2;letter 0 joy 3;letter 1 blow 2;";
        edge(2, "END: the first DEED that can't be, else how many there are.");
        due("none", week(two, "").till(0, 0), 0);
        due("all", week(two, "night;give 0;night;burn 1;").till(0, 0), 4);
        due("the first", week(two, "give 2;give 0;").till(0, 0), 0);
        due("the last", week(two, "give 0;give 1;give 1;").till(0, 0), 2);
        due("the first of several", week(two, "night;give 2;give 3;night;").till(0, 0), 1);
        due("forty", week(two, "night;".repeat(40)).till(0, 0), 40);
        due("the fortieth", week(two, "night;".repeat(39) + "give 9;").till(0, 0), 39);

        edge(2, "A STATE is behind the first n DEEDS, n up to END.");
        SortedOffice x = week(two, "give 0;give 1;give 1;night;");
        state(x, 0, 1, 3);
        state(x, 1, 1, 2);
        state(x, 2, 1, 0, 0, 0);
        for (int n : new int[] {-1, 3, 4, 5, Integer.MIN_VALUE, Integer.MAX_VALUE}) {
            for (int what : new int[] {0, 1, 2, 3, 4, 10, 20, 30}) {
                state(x, n, what, -1000);
            }
        }
    }

    // ---- term 3

    private static void order(SortedOffice x, boolean worst, int mood, int... row) {
        due("mood", x.order(0, 0, worst, NONE), mood);
        for (int k = 0; k < row.length; k++) {
            due("letter " + k, x.order(0, 0, worst, k), row[k]);
        }
        due("behind the last", x.order(0, 0, worst, row.length), -1000);
    }

    private static void orders() {
        edge(3, "BEST of a HOUSE: the most its MOOD can be then; the first order by numbers.");
        order(Check.with(""), false, 10);
        order(Check.with("letter 1 joy 1;letter 0 blow 4;"), false, 6, 1);
        order(Check.with("letter 0 joy 3;letter 0 joy 2;letter 0 joy 1;"), false, 16, 0, 1, 2);
        order(Check.with("letter 0 joy 3;letter 0 joy 2;law joy joy 2;"), false, 18, 1, 0);
        order(Check.with("letter 0 blow 3;letter 0 joy 2;law joy blow 0;"), false, 12, 1, 0);
        order(Check.with("mood 0 0;" + "letter 0 blow 9;".repeat(10)), false, -90, 0, 1, 2, 3, 4, 5, 6, 7, 8, 9);
        // the joy is to come behind a nothing, be it the first or the last of them
        order(Check.with("letter 0 nothing 1;letter 0 joy 1;letter 0 nothing 1;law nothing joy 3;"), false, 13, 0, 1, 2);

        edge(3, "WORST: the least it can be, likewise.");
        order(Check.with("mood 0 0;"), true, 0);
        order(Check.with("letter 0 joy 3;letter 0 joy 2;law joy joy 2;"), true, 17, 0, 1);
        order(Check.with("letter 0 blow 3;letter 0 joy 2;law joy blow 0;"), true, 9, 0, 1);
        order(Check.with("houses 1;mood 0 50;" + "letter 0 joy 9;".repeat(10)), true, 140, 0, 1, 2, 3, 4, 5, 6, 7, 8, 9);
        order(Check.with("mood 0 0;letter 0 blow 1;letter 0 blow 9;law blow blow 9;"), true, -82, 0, 1);
    }

    private static void fraction(String call, long above, long under, long wantAbove, long wantUnder) {
        due(call, above, wantAbove);
        due(call + " (under)", under, wantUnder);
    }

    private static void mean(String office, long above, long under) {
        SortedOffice x = Check.with(office);
        fraction("mean of " + office, x.mean(0, 0, false), x.mean(0, 0, true), above, under);
    }

    private static void means() {
        edge(3, "MEAN: all orders alike, its MOOD in the mean, a fraction in least terms (it may be below 0).");
        mean("", 10, 1);
        mean("mood 0 0;", 0, 1);
        mean("mood 0 0;letter 0 blow 9;", -9, 1);
        mean("mood 0 1;letter 0 blow 1;", 0, 1);
        mean("letter 0 joy 1;letter 0 joy 2;law joy joy 2;", 29, 2);
        mean("letter 0 joy 2;letter 0 joy 2;law joy joy 2;", 16, 1);
        mean("mood 0 0;letter 0 blow 1;letter 0 blow 2;law blow blow 2;", -9, 2);
        mean("mood 0 0;letter 0 blow 1;letter 0 joy 1;law joy blow 0;", 1, 2);
        // the blow comes behind a joy in four of six orders: 2, else 1
        mean("mood 0 0;letter 0 blow 1;letter 0 joy 1;letter 0 joy 1;law joy blow 0;", 5, 3);
        mean("houses 1;mood 0 50;" + "letter 0 joy 9;".repeat(10) + "law joy joy 9;", 59 + 9 * 81, 1);
        // the joy comes first in one order of seven
        mean("mood 0 0;" + "letter 0 nothing 1;".repeat(6) + "letter 0 joy 1;law nothing joy 0;", 1, 7);
    }

    private static void spared(String office, int p, int m, long above, long under) {
        SortedOffice x = Check.with(office);
        String call = "spared " + p + ", " + m + " of " + office;
        fraction(call, x.spared(0, 0, p, m, false), x.spared(0, 0, p, m, true), above, under);
    }

    private static void spared() {
        edge(3, "each of its LETTERS is lost by p of ten, by itself");
        int[][] tenths = {{1, 1}, {9, 10}, {4, 5}, {7, 10}, {3, 5}, {1, 2}, {2, 5}, {3, 10}, {1, 5}, {1, 10}, {0, 1}};
        for (int p = 0; p <= 10; p++) {
            spared("letter 0 joy 1;", p, 11, tenths[p][0], tenths[p][1]);
        }
        String ten = "houses 1;mood 0 0;" + "letter 0 joy 9;".repeat(10);
        spared(ten, 1, 90, 3486784401L, 10000000000L);
        spared(ten, 9, 90, 1, 10000000000L);
        spared(ten, 9, 1, 10000000000L - 3486784401L, 10000000000L);
        spared(ten, 0, 90, 1, 1);
        spared(ten, 10, 0, 1, 1);

        edge(3, "how likely its MOOD is m or more then");
        spared("letter 0 joy 1;", 5, 10, 1, 1);
        spared("letter 0 joy 1;", 5, 12, 0, 1);
        spared("mood 0 0;letter 0 blow 1;", 3, 0, 3, 10);
        spared("mood 0 0;", 3, 0, 1, 1);
        spared("mood 0 0;", 3, 1, 0, 1);
        spared("mood 0 50;" + "letter 0 joy 9;".repeat(6), 0, 99, 1, 1);
        spared("mood 0 50;" + "letter 0 joy 7;".repeat(7), 0, 99, 1, 1);
        spared("mood 0 50;" + "letter 0 joy 6;".repeat(8), 0, 99, 0, 1);
        edge(3, "all others come by numbers");
        spared("letter 0 joy 1;letter 0 joy 2;law joy joy 3;", 5, 17, 1, 4);
        spared("letter 0 joy 1;letter 0 joy 2;law joy joy 3;", 5, 18, 0, 1);
        spared("letter 0 joy 1;letter 0 nothing 1;letter 0 joy 1;law joy joy 9;", 5, 20, 1, 8);
        spared("letter 0 joy 1;letter 1 nothing 1;letter 0 joy 1;law joy joy 9;", 5, 20, 1, 4);
    }

    private static void racks() {
        edge(3, "goes to the rack of that one's and SHIFT more (behind 3 comes 0)");
        for (int kind = 0; kind < 4; kind++) {
            for (int shift = 0; shift < 4; shift++) {
                SortedOffice x = Check.with("letter 0 joy 1;letter 0 " + KINDS[kind] + " 1;minds 0 1 " + shift + ";");
                int[] racks = {0, 1, 2, 3, 0, 1, 2};
                due("at first", x.rack(0, 0, 0), 0);
                due("behind a round", x.rack(0, 0, 1), racks[kind + shift]);
                due("behind two", x.rack(0, 0, 2), racks[kind + shift]);
                due("who minds nobody stays", x.rack(0, 1, 999), kind);
            }
        }
        for (int kind = 0; kind < 4; kind++) {
            SortedOffice x = Check.with(("letter 0 " + KINDS[kind] + " 1;").repeat(10) + "minds 9 0 1;minds 8 9 3;");
            due("at first", x.rack(0, 0, 0), kind);
            due("at first", x.rack(0, 9, 0), kind);
            due("behind a round", x.rack(0, 9, 1), (kind + 1) % 4);
            due("behind a round", x.rack(0, 8, 1), (kind + 3) % 4);
            due("behind two", x.rack(0, 8, 2), kind);
        }
        edge(3, "(as it was ahead of the round), all at once");
        SortedOffice x = Check.with("letter 0 joy 1;letter 0 blow 1;letter 0 money 1;minds 0 1 0;minds 1 2 0;minds 2 0 0;");
        int[][] rows = {{0, 1, 2}, {1, 2, 0}, {2, 0, 1}, {0, 1, 2}};
        for (int n = 0; n < 4; n++) {
            for (int l = 0; l < 3; l++) {
                due("rack of " + l + " behind " + n, x.rack(0, l, n), rows[n][l]);
                due("rack of " + l + " behind " + (996 + n), x.rack(0, l, 996 + n), rows[n][l]);
            }
        }
    }

    private static void settles(String office, int settled, int again, int blind) {
        SortedOffice x = Check.with(office);
        due("settled of " + office, x.settled(0, 0), settled);
        due("again of " + office, x.settled(0, 1), again);
        due("blind of " + office, x.settled(0, 2), blind);
    }

    private static String chain(int letters) {
        StringBuilder s = new StringBuilder("letter 0 joy 1;".repeat(letters));
        for (int l = 0; l < letters - 1; l++) {
            s.append("minds " + l + " " + (l + 1) + " 1;");
        }
        return s.toString();
    }

    private static void settled() {
        String two = "letter 0 joy 1;letter 0 blow 1;";
        edge(3, "SETTLED: behind how many rounds it is as it is behind one more (never: none)");
        settles("", 0, 1, 0);
        settles(two, 0, 1, 0);
        settles(two + "minds 0 1 3;", 0, 1, 0);
        settles(two + "minds 0 1 0;", 1, 1, 0);
        settles(two + "minds 0 1 3;minds 1 0 1;", 0, 1, 0);
        for (int n = 1; n <= 10; n++) {
            settles(chain(n), n - 1, 1, 0);
        }
        settles(two + "minds 0 1 0;minds 1 0 0;", NONE, 2, 3);

        edge(3, "AGAIN: the fewest rounds behind which racks come again and again (1, if they settle)");
        for (int n = 2; n <= 10; n++) {
            // all in one rack go on by 1 in each round
            settles(chain(n) + "minds " + (n - 1) + " 0 1;", NONE, 4, (1 << n) - 1);
        }
        // rings of two, three and five, the shifts of which are 1, 2 and 4 together: 8, 6 and 5 rounds
        settles(chain(10) + "minds 1 0 0;minds 4 2 0;minds 9 5 0;", NONE, 120, 1023);

        edge(3, "BLIND: LETTERS (bits) that will change their rack again and again");
        settles(two + "letter 0 joy 1;minds 0 1 0;minds 1 0 0;minds 2 0 1;", NONE, 2, 7);
        settles(two + "letter 0 joy 1;letter 0 joy 1;minds 0 1 0;minds 1 0 0;minds 2 3 1;", NONE, 2, 3);
        settles("letter 0 joy 1;letter 0 joy 1;letter 0 joy 1;letter 0 blow 1;minds 0 1 0;minds 1 0 0;minds 2 3 1;"
            + "minds 3 2 3;", NONE, 2, 12);
    }

    private static void bags(String office, int force, int n, int days, int... row) {
        SortedOffice x = Check.with(office);
        String call = "bags " + force + ", " + n + " of " + office;
        due(call, x.bags(0, force, n, NONE), days);
        for (int k = 0; k < row.length; k++) {
            due(call + ", " + k, x.bags(0, force, n, k), row[k]);
        }
        due(call + ", behind the last", x.bags(0, force, n, row.length), NONE);
    }

    private static void bags() {
        edge(3, "LETTERS are given on days, n a day at most");
        String ten = "houses 6;" + "letter 0 joy 1;letter 5 joy 1;".repeat(5);
        int[] days = {0, 10, 5, 4, 3, 2, 2, 2, 2, 2, 1};
        for (int n = 1; n <= 10; n++) {
            int[] row = new int[10];
            for (int l = 0; l < 10; l++) {
                row[l] = l / n;
            }
            bags(ten, 99, n, days[n], row);
        }
        bags("", 1, 1, 0);
        bags("", 99, 10, 0);

        edge(3, "no HOUSE FORCES together above that on one day");
        bags(ten, 5, 10, 1, 0, 0, 0, 0, 0, 0, 0, 0, 0, 0);
        bags(ten, 4, 10, 2, 0, 0, 0, 0, 0, 0, 0, 0, 1, 1);
        bags(ten, 1, 10, 5, 0, 0, 1, 1, 2, 2, 3, 3, 4, 4);
        bags("letter 0 joy 9;letter 1 joy 9;", 9, 2, 1, 0, 0);
        bags("letter 0 joy 9;letter 0 joy 9;", 18, 2, 1, 0, 0);
        bags("letter 0 joy 9;letter 0 joy 9;", 17, 2, 2, 0, 1);
        bags("houses 1;" + "letter 0 joy 9;".repeat(10), 90, 10, 1, 0, 0, 0, 0, 0, 0, 0, 0, 0, 0);
        bags("houses 1;" + "letter 0 joy 9;".repeat(10), 89, 10, 2, 0, 0, 0, 0, 0, 0, 0, 0, 0, 1);
        bags("houses 1;" + "letter 0 joy 9;".repeat(10), 9, 10, 10, 0, 1, 2, 3, 4, 5, 6, 7, 8, 9);

        edge(3, "the fewest days; the first row of days by LETTERS, by numbers (from 0 on)");
        bags("letter 0 joy 3;letter 0 joy 3;letter 0 joy 6;letter 0 joy 6;", 9, 10, 2, 0, 1, 0, 1);
        bags("letter 0 joy 3;letter 0 joy 3;letter 0 joy 6;letter 0 joy 6;", 9, 2, 2, 0, 1, 0, 1);
        bags("letter 0 joy 2;letter 0 joy 2;letter 0 joy 4;", 4, 10, 2, 0, 0, 1);
        bags("letter 0 joy 5;letter 0 joy 4;letter 0 joy 1;letter 0 joy 2;", 6, 10, 2, 0, 1, 0, 1);
    }

    private static void sorters(String office, int more, int first) {
        SortedOffice x = Check.with(office);
        due("sorters of " + office, x.sorters(0, false), more);
        due("sorters of " + office + ", first", x.sorters(0, true), first);
    }

    private static void sorters() {
        edge(3, "whether he takes the first (0) or the last (1) at first (the first, if both are as good)");
        sorters("", 0, NONE);
        sorters("letter 0 joy 9;", 9, 0);
        sorters("letter 0 blow 9;", -9, 0);
        sorters("letter 0 joy 2;letter 0 joy 2;", 0, 0);
        sorters("letter 0 joy 2;letter 0 joy 3;", 1, 1);
        sorters("letter 0 joy 3;letter 0 joy 2;", 1, 0);
        sorters("letter 0 blow 1;letter 0 joy 1;letter 0 blow 1;", -3, 0);
        sorters("letter 0 joy 1;".repeat(10), 0, 0);
        sorters("letter 0 joy 1;".repeat(9) + "letter 0 joy 9;", 8, 1);

        edge(3, "what his LETTERS DO (LAWS aside)");
        sorters("letter 0 joy 2;letter 0 joy 2;law joy joy 9;", 0, 0);
        sorters("letter 0 money 5;letter 0 joy 3;", 1, 1);
        sorters("letter 0 nothing 9;letter 0 joy 1;", 1, 1);
        sorters("letter 0 nothing 9;letter 0 blow 1;", 1, 0);
    }

    // ---- term 4

    private static void slips() {
        edge(4, "one of them, or none, to another HOUSE than its own: SLIPS (10 times the HOUSE, and the LETTER; 99: none)");
        SortedOffice x = log("", "");
        due("without letters", x.fits(0, 0, 0), 1);
        due("none slips", x.fits(0, 0, 10), 99);
        x = log("houses 1;letter 0 joy 1;", "");
        due("without another house", x.fits(0, 0, 0), 1);
        due("none slips", x.fits(0, 0, 10), 99);
        x = log("houses 6;" + "letter 0 joy 1;".repeat(9) + "letter 5 joy 1;", "");
        due("all of them", x.fits(0, 0, 0), 51);
        due("the first", x.fits(0, 0, 10), 9);
        due("the second", x.fits(0, 0, 11), 10);
        due("the last but one", x.fits(0, 0, 59), 58);
        due("the last", x.fits(0, 0, 60), 99);
        due("behind the last", x.fits(0, 0, 61), -2);

        edge(4, "FIT, if each FACT is so then");
        String two = "houses 2;letter 0 joy 1;letter 1 joy 2;";
        // 1: both in HOUSE 0, 13 and 10; 10: both in HOUSE 1, 10 and 13; 99: 11 and 12
        int[][] moods = {{13, 10}, {10, 13}, {11, 12}};
        int[] codes = {1, 10, 99};
        for (int i = 0; i < 3; i++) {
            x = log(two, "mood 0 " + moods[i][0] + ";mood 1 " + moods[i][1] + ";mood 0 " + moods[i][0] + ";");
            due("one fits", x.fits(0, 0, 0), 1);
            due("which", x.fits(0, 0, 10), codes[i]);
            due("then", x.then(0, 0, 0, 0), moods[i][0]);
            due("then", x.then(0, 0, 0, 1), moods[i][1]);
            due("no further one", x.fits(0, 0, 11), -2);
            due("no further one", x.then(0, 0, 1, 0), -1000);
        }
        due("one fact is not so", log(two, "mood 0 13;mood 1 12;").fits(0, 0, 0), 0);
        due("one house, two moods", log(two, "mood 0 13;mood 0 11;").fits(0, 0, 0), 0);
        due("a mood below 0 is no fact's", log("houses 1;mood 0 0;letter 0 blow 1;", "mood 0 1;").fits(0, 0, 0), 0);
        due("then below 0", log("houses 1;mood 0 0;letter 0 blow 1;", "").then(0, 0, 0, 0), -1);

        edge(4, "SURE of the LETTER, of the HOUSE: it, if it is one in all (NONE, if 99 FITS)");
        sure(two, "mood 0 13;", 1, 0);
        sure(two, "mood 0 10;", 0, 1);
        sure(two, "mood 0 11;", NONE, NONE);
        sure(two, "mood 0 99;", NONE, NONE);
        sure(two, "", NONE, NONE);
        sure("letter 0 joy 1;", "mood 0 10;", 0, NONE);
        sure("houses 2;letter 0 joy 1;letter 0 joy 1;", "mood 1 11;", NONE, 1);
        sure("letter 0 joy 1;letter 0 joy 1;", "mood 0 11;", NONE, NONE);
        String nine = "houses 6;" + "letter 0 nothing 1;".repeat(9);
        sure(nine + "letter 0 joy 1;", "mood 5 11;", 9, 5);
        sure(nine + "letter 0 joy 1;", "mood 0 10;", 9, NONE);
        sure("houses 6;" + "letter 0 nothing 1;".repeat(8) + "letter 0 joy 1;letter 0 joy 1;", "mood 5 11;", NONE, 5);
        sure("houses 6;" + "letter 0 nothing 1;".repeat(8) + "letter 0 joy 1;letter 0 joy 2;", "mood 4 11;", 8, 4);
        // a NOTHING that slips is like none
        sure("houses 2;letter 0 nothing 1;", "", NONE, NONE);
    }

    private static void sure(String office, String log, int letter, int house) {
        SortedOffice x = log(office, log);
        due("letter by " + log + " in " + office, x.fits(0, 0, 1), letter);
        due("house by " + log + " in " + office, x.fits(0, 0, 2), house);
    }

    private static void asked() {
        edge(4, "ASK: the HOUSE of which the greatest number by which its MOOD is one and the same is least, of several the least");
        due("all alike", log("", "").fits(0, 0, 3), 0);
        due("nothing fits", log("", "mood 0 11;").fits(0, 0, 3), NONE);
        due("each house parts one from two", log("letter 0 joy 1;", "").fits(0, 0, 3), 0);
        due("the first parts none", log("letter 0 joy 1;", "mood 0 10;").fits(0, 0, 3), 1);
        due("of several the least", log("houses 6;letter 5 joy 1;", "mood 5 10;mood 0 10;").fits(0, 0, 3), 1);
        due("the last alone", log("letter 2 joy 1;letter 2 joy 2;", "mood 0 10;mood 1 10;").fits(0, 0, 3), 0);
        // HOUSE 0 has 10, 11 or 12 by none, 10 and 11: all unlike; HOUSE 1 has 13, 12, 11, too: the least of them
        due("all unlike", log("houses 2;letter 1 joy 1;letter 1 joy 2;", "").fits(0, 0, 3), 0);
        // by none 13 in HOUSE 2; 1, 2 less behind 0, 1 to HOUSE 0 or 1: HOUSE 2 has 13, 12, 12, 11, 11, the others more alike
        due("the greatest number alike", log("letter 2 joy 1;letter 2 joy 2;", "").fits(0, 0, 3), 2);
    }

    // ---- term 5

    /** The document's numbers once more, of 32 bits held in a long. */
    private static final class Seed {
        private long x;

        Seed(int seed) {
            x = seed & 0xffffffffL;
        }

        int below(int n) {
            x = (x * 1103515245L + 12345L) & 0xffffffffL;
            return (int) ((x >> 16) % n);
        }
    }

    private static void drawn() {
        int[] seeds = {0, 1, -1, 7, 65535, 65536, 123456789, Integer.MAX_VALUE, Integer.MIN_VALUE, -123456789};
        edge(5, "x becomes x * 1103515245 + 12345 (of 32 bits), it is x shifted right by 16 without sign, remainder by n");
        for (int seed : seeds) {
            Seed s = new Seed(seed);
            int deed = s.below(8);
            SortedOffice one = Check.with("houses 1;letter 0 joy 1;");
            due("the first by " + seed, one.drawn(0, seed, 1, 0), deed == 7 ? 1 : 0);
            due("the first by " + seed, one.drawn(0, seed, 1, 30), deed < 4 ? 1 : 0);
            due("the first by " + seed, one.drawn(0, seed, 1, 1), deed < 4 || deed == 6 ? 0 : 1);
        }
        edge(5, "(Without LETTERS 0 to 6 draw no more, nothing is done.)");
        for (int seed : seeds) {
            SortedOffice none = Check.with("houses 1;mood 0 50;");
            Seed s = new Seed(seed);
            int nights = 0;
            for (int n = 0; n <= 60; n++) {
                due("nights by " + seed + ", " + n, none.drawn(0, seed, n, 0), nights);
                due("mood by " + seed + ", " + n, none.drawn(0, seed, n, 10), Math.max(10, 50 - nights));
                nights += s.below(8) == 7 ? 1 : 0;
            }
            for (int what : new int[] {1, 2, 3, 30}) {
                due("nothing is done by " + seed + ", " + what, none.drawn(0, seed, 60, what), 0);
            }
        }
        edge(5, "a number below 8: 0 to 3: give, a LETTER, below LETTERS; 4, 5: slip, a LETTER, a HOUSE, below HOUSES; "
            + "6: burn, a LETTER; 7: night; each, if it may");
        String[] texts = {"houses 1;letter 0 joy 1;", "houses 2;letter 0 nothing 1;letter 1 joy 1;",
            "houses 6;" + "letter 0 joy 1;".repeat(10)};
        int[][] sizes = {{1, 1}, {2, 2}, {6, 10}};
        for (int i = 0; i < texts.length; i++) {
            for (int seed : seeds) {
                tryDrawn(Check.with(texts[i]), seed, sizes[i][0], sizes[i][1]);
            }
        }
    }

    /** What is LEFT, how many slipped and the nights, by a deed drawn at a time. */
    private static void tryDrawn(SortedOffice x, int seed, int houses, int letters) {
        Seed s = new Seed(seed);
        int left = (1 << letters) - 1;
        int slipped = 0;
        int nights = 0;
        for (int n = 0; n <= 60; n++) {
            String call = "by " + seed + ", " + n;
            due("left " + call, x.drawn(0, seed, n, 1), left);
            due("slipped " + call, x.drawn(0, seed, n, 2), slipped);
            due("nights " + call, x.drawn(0, seed, n, 0), nights);
            int deed = s.below(8);
            int letter = deed == 7 ? 0 : s.below(letters);
            int house = deed == 4 || deed == 5 ? s.below(houses) : NONE;
            boolean isLeft = (left >> letter & 1) == 1;
            boolean slips = house >= 0 && isLeft && house != x.office(0, 20 + letter);
            nights += deed == 7 ? 1 : 0;
            slipped += slips ? 1 : 0;
            if (deed != 7 && isLeft && (house < 0 || slips)) {
                left -= 1 << letter;
            }
        }
    }

    // ---- term 6

    private static void dear() {
        edge(6, "DEAR of a LETTER: by how much BEST of its HOUSE is more with it than if it never came (below 0, if less).");
        due("joy", Check.with("letter 0 joy 9;").dear(0, 0), 9);
        due("blow", Check.with("letter 0 blow 9;").dear(0, 0), -9);
        due("nothing", Check.with("letter 0 nothing 9;").dear(0, 0), 0);
        SortedOffice x = Check.with("letter 0 blow 1;letter 0 joy 2;letter 1 joy 3;law blow joy 9;");
        due("a blow that joy comes behind", x.dear(0, 0), 15);
        due("joy behind it", x.dear(0, 1), 18);
        due("the others' houses stay", x.dear(0, 2), 3);
        SortedOffice spoils = Check.with("letter 0 joy 3;letter 0 nothing 1;law joy joy 0;law nothing joy 0;");
        due("nothing that does nothing", spoils.dear(0, 1), 0);

        edge(6, "SPOILT of a HOUSE: how much less its MOOD is then than BEST.");
        due("no letters", Check.with("").spoilt(0, 2, false), 0);
        due("by numbers is best", Check.with("letter 0 blow 1;letter 0 joy 2;law blow joy 9;").spoilt(0, 0, false), 0);
        due("turned round", Check.with("letter 0 joy 2;letter 0 blow 1;law blow joy 9;").spoilt(0, 0, false), 16);

        edge(6, "LOWEST of a HOUSE: the least its MOOD ever is, if all come by numbers (at first, too).");
        due("no letters", Check.with("mood 2 0;").spoilt(0, 2, true), 0);
        due("at first", Check.with("letter 0 joy 1;").spoilt(0, 0, true), 10);
        due("between", Check.with("letter 0 blow 1;letter 0 joy 9;letter 0 blow 9;").spoilt(0, 0, true), 9);
        due("in the end", Check.with("letter 0 joy 1;letter 0 blow 9;").spoilt(0, 0, true), 2);
        due("below 0", Check.with("mood 0 0;letter 0 blow 9;letter 0 joy 9;").spoilt(0, 0, true), -9);
    }

    private static void calm(String office, int mood, int bits) {
        SortedOffice x = Check.with(office);
        String call = "calm at " + mood + " of " + office;
        due(call, x.calm(0, 0, mood, false), bits == NONE ? NONE : Integer.bitCount(bits));
        due(call + ", which", x.calm(0, 0, mood, true), bits);
    }

    private static void calm() {
        edge(6, "CALM of a HOUSE, a MOOD, 0 .. 99: its MOOD is never below that, at first and behind each that comes");
        calm("", 0, 0);
        calm("", 10, 0);
        calm("", 11, NONE);
        calm("", 99, NONE);
        calm("letter 0 joy 9;", 11, NONE);
        calm("letter 0 blow 1;", 9, 0);
        calm("letter 0 blow 1;", 10, 1);
        calm("letter 0 blow 1;letter 0 joy 9;", 10, 1);
        calm("letter 0 joy 9;letter 0 blow 9;", 10, 0);
        calm("mood 0 0;letter 0 blow 1;", 0, 1);
        edge(6, "the fewest of its LETTERS that are to be burnt; which (bits; of several the least)");
        calm("letter 0 blow 5;letter 0 blow 5;letter 0 blow 5;", 0, 1);
        calm("letter 0 blow 5;letter 0 blow 5;letter 0 blow 5;", 5, 3);
        calm("letter 0 blow 5;letter 0 blow 6;letter 0 blow 5;", 0, 2);
        calm("letter 0 blow 1;letter 0 blow 1;letter 0 blow 9;", 8, 4);
        calm("letter 1 blow 9;letter 0 blow 1;", 10, 2);
        calm("houses 1;" + "letter 0 blow 9;".repeat(10), 10, 1023);
        calm("letter 0 joy 1;letter 0 blow 3;law joy blow 4;", 7, 1);
    }

    private static void hoped(String office, int n, long above, long under) {
        SortedOffice x = Check.with(office);
        fraction("hoped of " + n + " in " + office, x.hoped(0, n, false), x.hoped(0, n, true), above, under);
    }

    private static void hoped() {
        edge(6, "HOPED of n: MOODS of all HOUSES together in the mean, a fraction in least terms (it may be below 0).");
        hoped("", 0, 30, 1);
        hoped("houses 1;mood 0 0;", 0, 0, 1);
        hoped("houses 6;", 0, 60, 1);
        String two = "houses 1;mood 0 0;letter 0 blow 1;letter 0 blow 2;law blow blow 9;";
        hoped(two, 0, 0, 1);
        hoped(two, 1, -3, 2);
        hoped(two, 2, -19, 1);
        String three = "houses 2;mood 0 0;mood 1 1;letter 0 joy 1;letter 1 joy 1;letter 0 joy 2;law joy joy 3;";
        hoped(three, 1, 7, 3);
        // 0 and 1: 3; 0 and 2: 1 + 1 + 6 = 8; 1 and 2: 4
        hoped(three, 2, 5, 1);
        hoped(three, 3, 9, 1);
        hoped("letter 0 joy 1;".repeat(10), 10, 40, 1);
        hoped("letter 0 joy 1;".repeat(9) + "letter 0 joy 2;", 1, 311, 10);
    }

    private static void strongest(String office, int law, int much) {
        SortedOffice x = Check.with(office);
        due("strongest of " + office, x.strongest(0, false), law);
        due("strongest of " + office + ", much", x.strongest(0, true), much);
    }

    private static void strongest() {
        edge(6, "STRONGEST: the LAW by whose striking out BESTS change most, of several the least; by how much (never below 0)");
        strongest("", NONE, NONE);
        strongest("law nothing nothing 9;", 115, 0);
        strongest("law nothing nothing 9;law joy joy 9;", 100, 0);
        strongest("letter 0 joy 1;letter 0 joy 1;law joy joy 9;", 100, 8);
        strongest("letter 0 joy 1;letter 0 joy 1;law joy joy 0;", 100, 1);
        strongest("letter 0 joy 1;letter 0 joy 1;law joy joy 1;", 100, 0);
        strongest("letter 0 blow 1;letter 0 blow 1;letter 1 joy 1;letter 1 joy 1;law blow blow 3;law joy joy 3;", 100, 2);
        strongest("letter 0 blow 1;letter 0 blow 1;letter 1 joy 1;letter 1 joy 1;law blow blow 4;law joy joy 3;", 105, 3);
        strongest("letter 0 blow 1;letter 0 blow 1;letter 1 joy 1;letter 1 joy 1;law blow blow 3;law joy joy 4;", 100, 3);
    }

    private static void swapped(String office, int couple, int much) {
        SortedOffice x = Check.with(office);
        due("swapped of " + office, x.swapped(0, false), couple);
        due("swapped of " + office + ", much", x.swapped(0, true), much);
    }

    private static void swapped() {
        edge(6, "SWAPPED: by numbers the first, by whose changing HOUSES BESTS are most (as it is, if none is better: none)");
        swapped("", NONE, 30);
        swapped("letter 0 joy 1;", NONE, 31);
        swapped("letter 0 joy 1;letter 1 joy 1;", NONE, 32);
        swapped("letter 0 joy 1;letter 0 joy 1;law joy joy 9;", NONE, 40);
        // 0 and 2, or 1 and 3, bring the joys together
        String four = "houses 2;letter 0 joy 1;letter 0 nothing 1;letter 1 nothing 1;letter 1 joy 1;law joy joy 9;";
        swapped(four, 2, 30);
        swapped("houses 2;letter 0 nothing 1;letter 0 joy 1;letter 1 joy 1;letter 1 nothing 1;law joy joy 9;", 2, 30);
        swapped("houses 2;letter 0 joy 1;letter 0 nothing 1;letter 1 joy 1;law joy joy 9;", 12, 30);
        swapped("letter 2 blow 1;".repeat(7) + "letter 0 nothing 1;letter 0 blow 1;letter 1 joy 1;law nothing joy 9;",
            89, 31);
        String last = "houses 2;" + "letter 0 nothing 1;".repeat(8) + "letter 0 joy 1;letter 1 blow 1;law blow joy 0;"
            + "law nothing joy 0;";
        swapped(last, NONE, 20);
        swapped("houses 2;" + "letter 0 nothing 1;".repeat(8) + "letter 0 blow 1;letter 1 joy 1;law nothing blow 9;"
            + "law nothing joy 9;", 9, 28);
    }

    private static void strike(String office, int k, long above, long under) {
        SortedOffice x = Check.with(office);
        fraction("strike of " + k + " in " + office, x.strike(0, k, false), x.strike(0, k, true), above, under);
    }

    private static void strike() {
        edge(6, "STRIKE of k, 0 .. 3: how likely no HOUSE is below its MOOD as told in the end");
        strike("", 0, 1, 1);
        strike("letter 0 blow 1;", 0, 0, 1);
        strike("letter 0 nothing 1;", 0, 1, 1);
        strike("letter 0 blow 1;letter 0 joy 1;", 0, 1, 1);
        strike("letter 0 joy 1;letter 0 blow 2;", 0, 0, 1);
        strike("houses 1;letter 0 joy 1;letter 0 blow 1;letter 0 nothing 1;", 3, 1, 1);
        strike("mood 0 0;letter 0 joy 9;letter 0 joy 9;letter 0 joy 9;", 3, 1, 1);

        edge(6, "(all sets of k, and all HOUSES for each of these, the own one, too, alike)");
        String two = "houses 2;letter 0 joy 1;letter 0 blow 1;";
        strike(two, 1, 1, 2);
        strike(two, 2, 1, 2);
        strike("houses 3;letter 0 joy 1;letter 0 blow 1;", 2, 1, 3);
        strike("houses 6;letter 0 joy 1;letter 0 blow 1;", 1, 1, 6);
        strike("houses 2;letter 0 joy 1;letter 0 joy 1;letter 0 blow 2;", 3, 1, 4);
        String three = "houses 2;letter 0 joy 2;letter 0 blow 1;letter 0 blow 1;";
        strike(three, 0, 1, 1);
        strike(three, 1, 1, 2);
        strike(three, 2, 1, 4);
        strike(three, 3, 1, 4);
        // of ten sets one has the joy, one the blow: each of them is fine by one HOUSE of two
        strike("houses 2;" + "letter 1 nothing 1;".repeat(8) + "letter 0 joy 1;letter 0 blow 1;", 1, 9, 10);
        edge(6, "all LETTERS come by numbers");
        strike("houses 1;letter 0 joy 1;letter 0 blow 2;law joy blow 0;", 1, 1, 1);
        strike("houses 1;letter 0 blow 2;letter 0 joy 1;law joy blow 0;", 1, 0, 1);
    }

    private static void ruled() {
        edge(6, "RULED: of how many couples of a LETTER and one behind it in number, both of one HOUSE, there is a LAW.");
        due("no letters", Check.with("law joy joy 1;").ruled(0, 0), 0);
        due("one letter", Check.with("letter 0 joy 1;law joy joy 1;").ruled(0, 0), 0);
        due("a law of TIMES 0", Check.with("letter 0 joy 1;letter 0 joy 1;law joy joy 0;").ruled(0, 0), 1);
        due("two houses", Check.with("letter 0 joy 1;letter 1 joy 1;law joy joy 1;").ruled(0, 0), 0);
        due("two houses", Check.with("letter 1 joy 1;letter 0 joy 1;law joy joy 1;").ruled(0, 0), 0);
        due("behind it", Check.with("letter 0 joy 1;letter 0 blow 1;law joy blow 1;").ruled(0, 0), 1);
        due("ahead of it", Check.with("letter 0 joy 1;letter 0 blow 1;law blow joy 1;").ruled(0, 0), 0);
        due("all couples", Check.with("letter 2 joy 1;".repeat(10) + "law joy joy 1;").ruled(0, 0), 45);

        edge(6, "FOLLOW: the longest row of LETTERS, each of which minds the next one, all unlike: how many.");
        due("no letters", Check.with("").ruled(0, 1), 0);
        for (int n = 1; n <= 10; n++) {
            due("a chain of " + n, Check.with(chain(n)).ruled(0, 1), n);
            if (n > 1) {
                due("a ring of " + n, Check.with(chain(n) + "minds " + (n - 1) + " 0 0;").ruled(0, 1), n);
            }
        }
        due("nobody minds", Check.with("letter 0 joy 1;".repeat(3)).ruled(0, 1), 1);
        due("into a ring", Check.with("letter 0 joy 1;".repeat(4) + "minds 3 1 0;minds 1 2 0;minds 2 1 0;").ruled(0, 1), 3);
        due("the longer one", Check.with("letter 0 joy 1;".repeat(6) + "minds 0 1 0;minds 3 4 0;minds 4 5 0;").ruled(0, 1), 3);
    }

    private static void loose() {
        String four = "letter 0 joy 1;letter 0 blow 1;letter 0 joy 1;letter 0 blow 1;";
        edge(6, "LOOSE: the fewest LETTERS (bits; of several the least) that are to mind nobody, so that racks settle.");
        due("no letters", Check.with("").ruled(0, 2), 0);
        due("they settle", Check.with(four + "minds 0 1 1;minds 1 2 1;minds 2 3 1;").ruled(0, 2), 0);
        due("a ring that rests", Check.with(four + "minds 0 1 3;minds 1 0 1;").ruled(0, 2), 0);
        due("a ring", Check.with(four + "minds 0 1 0;minds 1 0 0;").ruled(0, 2), 1);
        due("two rings", Check.with(four + "minds 0 1 0;minds 1 0 0;minds 2 3 0;minds 3 2 0;").ruled(0, 2), 5);
        due("one of two rests", Check.with(four + "minds 0 1 3;minds 1 0 1;minds 2 3 0;minds 3 2 0;").ruled(0, 2), 4);
        due("one that follows a ring", Check.with(four + "minds 0 3 0;minds 3 2 0;minds 2 3 0;").ruled(0, 2), 4);
        due("the last ones", Check.with("letter 0 joy 1;".repeat(10) + "minds 8 9 1;minds 9 8 1;").ruled(0, 2), 256);
        due("all in one ring", Check.with(chain(10) + "minds 9 0 1;").ruled(0, 2), 1);
    }

    private static void ranked() {
        edge(6, "RANKED: HOUSES by BEST, the most first, of several the least number: the k-th.");
        due("one house", Check.with("houses 1;").ruled(0, 10), 0);
        int[] alike = {0, 1, 2, 3, 4, 5};
        int[] unlike = {5, 3, 0, 2, 4, 1};
        SortedOffice x = Check.with("houses 6;");
        SortedOffice y = Check.with("houses 6;mood 5 50;mood 3 11;mood 1 0;letter 1 blow 1;letter 4 joy 9;letter 4 blow 9;");
        for (int k = 0; k < 6; k++) {
            due("all alike", x.ruled(0, 10 + k), alike[k]);
            due("unlike", y.ruled(0, 10 + k), unlike[k]);
        }
        edge(6, "TOUCHED: how many HOUSES there are whose BEST is not their WORST.");
        due("none", Check.with("houses 6;letter 0 joy 1;letter 0 blow 1;").ruled(0, 3), 0);
        StringBuilder all = new StringBuilder("houses 5;law joy joy 2;");
        for (int h = 0; h < 5; h++) {
            due("touched", Check.with(all.toString()).ruled(0, 3), h);
            all.append("letter " + h + " joy 1;letter " + h + " joy 2;");
        }
        due("touched", Check.with(all.toString()).ruled(0, 3), 5);
    }

    private static void after(String office, String week, int... dues) {
        SortedOffice x = week(office, week);
        for (int what = 0; what < dues.length; what++) {
            due("after " + what + " of " + week + " in " + office, x.after(0, 0, what), dues[what]);
        }
    }

    private static void grieved() {
        edge(6, "GRIEVED: the HOUSE whose MOOD was lowest in any STATE, of several the least (at that MOOD); how low");
        after("", "", 0, 10);
        after("houses 1;mood 0 50;", "", 0, 50);
        after("mood 1 9;", "", 1, 9);
        after("mood 2 9;", "", 2, 9);
        after("mood 2 9;", "night;night;", 2, 9);
        after("houses 6;mood 5 0;", "night;".repeat(40), 5, 0);
        after("mood 0 50;mood 1 50;mood 2 50;", "night;night;", 0, 48);
        String two = "letter 2 blow 5;letter 1 blow 5;letter 0 blow 6;";
        after(two, "give 0;give 1;", 1, 5);
        after(two, "give 1;give 0;", 1, 5);
        after(two, "give 0;night;give 1;", 1, 5);
        after(two, "give 0;give 1;give 2;", 0, 4);
        after(two, "slip 0 0;night;", 0, 5);
        after(two, "burn 0;burn 1;burn 2;", 0, 10);
        after("mood 0 0;letter 0 blow 9;letter 0 joy 9;", "give 0;give 1;", 0, -9);

        edge(6, "behind all DEEDS up to END");
        after(two, "give 0;give 0;give 2;", 2, 5);
        after(two, "give 9;give 2;", 0, 10);
    }

    private static void failed() {
        edge(6, "FAILED: LETTERS (bits) that came (to any HOUSE) and DID other than they would, nothing having come ahead");
        String office = "houses 2;letter 0 joy 1;letter 0 joy 1;letter 1 joy 1;letter 0 money 1;letter 0 nothing 1;"
            + "law joy joy 2;law joy money 9;law money nothing 9;law nothing joy 1;";
        after(office, "", 0, 10, 0, 0);
        after(office, "give 0;", 0, 10, 0, 0);
        after(office, "give 0;give 1;", 0, 10, 2, 0);
        after(office, "give 0;slip 2 0;", 0, 10, 4, 0);
        after(office, "give 0;slip 1 1;give 2;", 0, 10, 4, 0);
        after(office, "give 0;night;give 1;", 0, 10, 0, 0);
        after(office, "give 0;give 1;give 1;slip 2 0;", 0, 10, 2, 0);
        // half of 1 is 0, and so is nine times that; TIMES 1 is no other
        after(office, "give 0;give 3;give 4;give 1;", 0, 10, 0, 2);
        after("houses 1;" + "letter 0 joy 1;".repeat(10) + "law joy joy 0;",
            "give 9;give 8;give 7;give 6;give 5;give 4;give 3;give 2;give 1;give 0;", 0, 10, 511, 9);

        edge(6, "IDLE: how many came and DID 0");
        after(office, "burn 4;burn 3;", 0, 10, 0, 0);
        after(office, "give 4;slip 3 1;", 0, 10, 0, 2);
        after("letter 0 joy 1;letter 0 blow 1;law joy blow 0;", "give 0;give 1;", 0, 10, 2, 1);

        edge(6, "THEN of k, a HOUSE: its MOOD by the k-th that FITS.");
        SortedOffice x = log("letter 0 joy 1;letter 1 blow 9;", "");
        int[][] moods = {{2, 10, 10}, {10, 2, 10}, {10, 1, 11}, {11, 10, 1}, {11, 1, 10}};
        int[] codes = {1, 10, 20, 21, 99};
        due("how many", x.fits(0, 0, 0), 5);
        for (int k = 0; k < 5; k++) {
            due("code", x.fits(0, 0, 10 + k), codes[k]);
            for (int h = 0; h < 3; h++) {
                due("then " + k + ", " + h, x.then(0, 0, k, h), moods[k][h]);
            }
        }
    }
}

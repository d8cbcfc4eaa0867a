/** Each promise in turn, with answers reckoned by hand: ordinary inputs, edges, wrong inputs. */
public final class PromisesTest {
    private static final int NONE = SortedOffice.NONE;
    private static final int[] ODD = {Integer.MIN_VALUE, -1001, -2, 7, 1000, Integer.MAX_VALUE};
    private static final long FAR = -1000000000000L;

    /** HOUSE 0: joy 4 (0), blow 3 (1), money 6 (3); HOUSE 1: money 5 (2), blow 2 (4); HOUSE 2: nothing 9 (5). */
    private static final String OFFICE = "houses 3;mood 1 5;letter 0 joy 4;letter 0 blow 3;letter 1 money 5;"
        + "letter 0 money 6;letter 1 blow 2;letter 2 nothing 9;law joy blow 2;law blow joy 3;law money blow 0;"
        + "minds 0 1 1;minds 1 0 0;minds 5 0 2;";
    private static final String WEEK = "give 0;give 1;night;slip 3 1;give 4;burn 5;give 2;give 0;";

    public static void main(String[] args) {
        newObject();
        feedAndEnd();
        text();
        refusedTexts();
        places();
        faultsOfOffices();
        faultsOfWeeksAndLogs();
        office();
        doing();
        deed();
        tillAndState();
        deedsThatCannotBe();
        nights();
        order();
        mean();
        spared();
        racks();
        bags();
        sorters();
        fact();
        fits();
        shorterBehindLonger();
        drawn();
        dearSpoiltCalm();
        hopedAndStrike();
        strongestAndSwapped();
        ruled();
        after();
        then();
        images();
        wholeImages();
        Check.finish();
    }

    private static void due(String call, long got, long want) {
        Check.due(call, got, want);
    }

    // Promise 1, 31
    private static void newObject() {
        SortedOffice x = new SortedOffice();
        due("NONE", SortedOffice.NONE, -1);
        for (int sort = 0; sort < 3; sort++) {
            due("count " + sort, x.count(sort), 0);
        }
        due("count 3", x.count(3), -2);
        due("count -1", x.count(-1), -2);
        due("fault 0", x.fault(0), 0);
        due("fault 1", x.fault(1), NONE);
        due("end 1", x.end(1), NONE);
        for (int k = -1; k < 4; k++) {
            Check.due("again " + k, x.again(k), false);
        }
        due("office", x.office(0, 0), -2);
        due("deed", x.deed(0, NONE, 0), -2);
        due("fact", x.fact(0, NONE, 0), -2);
    }

    // Promise 2, 3
    private static void feedAndEnd() {
        SortedOffice x = new SortedOffice();
        for (int n = 20; n <= 600; n += 20) {
            due("feed", x.feed(0x20202020, 0x20202020, 0x20202020, 0x20202020, 0x20202020), n);
        }
        due("feed a full tape", x.feed(0, 0, 0, 0, 0), NONE);
        due("end 601", x.end(601), NONE);
        due("end 600", x.end(600), 600);
        due("end -1", x.end(-1), NONE);
        due("end min", x.end(Integer.MIN_VALUE), NONE);
        due("end 581", x.end(581), 581);
        due("feed beyond 600", x.feed(0, 0, 0, 0, 0), NONE);
        due("end 582", x.end(582), NONE);
        due("end 580", x.end(580), 580);
        due("feed up to 600", x.feed(0, 0, 0, 0, 0), 600);
        due("end 0", x.end(0), 0);
        due("end 0 again", x.end(0), 0);
        // 'nigh' 't;  ' and, in the highest byte, one that is above 127
        due("feed", x.feed(0x6e696768, 0x743b2020, 0x20202020, 0x20202020, 0xff202020), 20);
        due("text", x.text(1, NONE), NONE);
        due("place of the highest byte", x.fault(1), 16);
    }

    // Promise 4, 5, 31
    private static void text() {
        SortedOffice x = new SortedOffice();
        for (int sort = 0; sort < 3; sort++) {
            due("first", Check.tell(x, sort, NONE, ""), 0);
            due("in no place", Check.tell(x, sort, 1, ""), -2);
            due("second", Check.tell(x, sort, NONE, ""), 1);
            due("third", Check.tell(x, sort, NONE, ""), -2);
            due("in the place of the second", Check.tell(x, sort, 1, ""), 1);
            due("in the place of the first", Check.tell(x, sort, 0, ""), 0);
            due("in no place", Check.tell(x, sort, 2, ""), -2);
            due("in no place", Check.tell(x, sort, -2, ""), -2);
            due("count", x.count(sort), 2);
        }
        due("taken", Check.tell(x, 1, 0, "night;"), 0);
        due("the tape is empty then", x.end(1), NONE);
        due("one deed", x.deed(0, NONE, 0), 1);
        due("a fault", Check.tell(x, 1, 0, "night;give 10;"), NONE);
        due("fault", x.fault(0), 2);
        due("place", x.fault(1), 11);
        due("another what", x.fault(2), NONE);
        due("another what", x.fault(-1), NONE);
        due("the tape is empty then", x.end(1), NONE);
        due("nothing changed", x.deed(0, NONE, 0), 1);
        due("none such: FAULT 0", Check.tell(x, 1, 2, "?"), -2);
        due("fault", x.fault(0), 0);
        due("place", x.fault(1), NONE);
        due("in its place", Check.tell(x, 0, 0, "houses 5;mood 4 3;letter 0 joy 1;law joy joy 3;"), 0);
        due("houses", x.office(0, 0), 5);
        due("the other", x.office(1, 0), 3);
        due("all anew", Check.tell(x, 0, 0, "houses 6;"), 0);
        due("letters", x.office(0, 1), 0);
        due("laws", x.office(0, 2), 0);
        due("mood", x.office(0, 14), 10);
        due("law", x.office(0, 100), NONE);
    }

    private static void refused(SortedOffice x, String why, int sort, int at) {
        int offices = x.count(0);
        int weeks = x.count(1);
        int logs = x.count(2);
        due("a fault ahead", Check.tell(x, 1, weeks == 2 ? 0 : NONE, "?"), NONE);
        Check.put(x, "night; ?");
        due(why, x.text(sort, at), -2);
        due(why + ": fault", x.fault(0), 0);
        due(why + ": place", x.fault(1), NONE);
        due(why + ": the tape is empty", x.end(1), NONE);
        due(why + ": the tape has twenty bytes", x.feed(0, 0, 0, 0, 0), 20);
        due(why + ": offices", x.count(0), offices);
        due(why + ": weeks", x.count(1), weeks);
        due(why + ": logs", x.count(2), logs);
    }

    // Promise 4: where text() answers -2 no text is read, but the tape is taken all the same
    private static void refusedTexts() {
        for (int sort = 0; sort < 3; sort++) {
            SortedOffice x = new SortedOffice();
            refused(x, "none told yet", sort, 0);
            due("first", Check.tell(x, sort, NONE, ""), 0);
            refused(x, "none such of one", sort, 1);
            refused(x, "far above", sort, Integer.MAX_VALUE);
            refused(x, "below NONE", sort, -2);
            refused(x, "far below", sort, Integer.MIN_VALUE);
            due("second", Check.tell(x, sort, NONE, ""), 1);
            refused(x, "as many as may be", sort, NONE);
            refused(x, "none such of two", sort, 2);
        }
        SortedOffice y = Check.with("houses 4;");
        int[] noSorts = {-1, 3, 4, Integer.MIN_VALUE, Integer.MAX_VALUE};
        for (int sort : noSorts) {
            refused(y, "no such sort", sort, NONE);
            refused(y, "no such sort", sort, 0);
        }
        due("an empty tape", y.end(0), 0);
        due("nothing to take", y.text(0, 2), -2);
        due("an empty tape still", y.end(1), NONE);
        due("the first stands", y.office(0, 0), 4);
    }

    private static void faulty(int sort, String text, int fault, int place) {
        Check.faulty(sort, text, fault, place);
    }

    // Promise 4, 5: tokens and fault 1
    private static void places() {
        faulty(0, "", 0, NONE);
        faulty(0, "  \n ", 0, NONE);
        faulty(0, "\nhouses\n6 ;", 0, NONE);
        faulty(0, "houses6;letter5joy9;", 0, NONE);
        faulty(0, "houses 06;mood 00 09;", 0, NONE);
        faulty(0, "houses 3", 1, 8);
        faulty(0, "houses 3  ", 1, 10);
        faulty(0, "houses", 1, 6);
        faulty(0, "houses ;", 1, 7);
        faulty(0, ";", 1, 0);
        faulty(0, "  hous 3;", 1, 2);
        faulty(0, "housess 3;", 1, 0);
        faulty(0, "Houses 3;", 1, 0);
        faulty(0, "houses\t3;", 1, 6);
        faulty(0, "houses -3;", 1, 7);
        faulty(0, "houses 003;", 1, 7);
        faulty(0, "houses 3 3;", 1, 9);
        faulty(0, "houses 3;;", 1, 9);
        faulty(0, "houses 9;letter 0 1;", 1, 18);
        faulty(0, "letter 0 joys 1;", 1, 9);
        faulty(0, "letter 0 joyz 1;", 1, 9);
        faulty(0, "letter 0 joya 1;", 1, 9);
        faulty(0, "letter 0 joy{1;", 1, 12);
        faulty(0, "letter 0 joy`1;", 1, 12);
        faulty(0, "letter 0/joy 1;", 1, 8);
        faulty(0, "letter 0:joy 1;", 1, 8);
        faulty(0, "letter 0 joy 1:", 1, 14);
        faulty(0, "letter 0 joy 1<", 1, 14);
        faulty(0, "letter\r0 joy 1;", 1, 6);
        faulty(0, "letter\u00a00 joy 1;", 1, 6);
        faulty(0, "letter\u00b0 joy 1;", 1, 6);
        faulty(0, "letter joy 0 1;", 1, 7);
        faulty(0, "law joy 1;", 1, 8);
        faulty(0, "minds 0 1;", 1, 9);
        faulty(0, "night;", 1, 0);
        faulty(1, "houses 3;", 1, 0);
        faulty(1, "burn;", 1, 4);
        faulty(1, "night 1;", 1, 6);
        faulty(1, "slip 0;", 1, 6);
        faulty(1, "give 0 0;", 1, 7);
        faulty(2, "mood 0 100;", 1, 7);
        faulty(2, "night;", 1, 0);
        faulty(2, "houses 3;", 1, 0);
    }

    private static String times(String line, int n) {
        return line.repeat(n);
    }

    private static void faultsOfOffices() {
        faulty(0, "houses 0;", 2, 7);
        faulty(0, "houses 1;", 0, NONE);
        faulty(0, "houses 6;", 0, NONE);
        faulty(0, "houses 7;", 2, 7);
        faulty(0, "houses 6;mood 5 50;", 0, NONE);
        faulty(0, "mood 6 51;", 2, 5);
        faulty(0, "mood 0 51;", 2, 7);
        faulty(0, "letter 6 joy 1;", 2, 7);
        faulty(0, "letter 0 joy 0;", 2, 13);
        faulty(0, "letter 0 joy 10;", 2, 13);
        faulty(0, "letter 2 joy 9;", 0, NONE);
        faulty(0, "law joy joy 10;", 2, 12);
        faulty(0, "law joy joy 9;law joy joy 0;", 0, NONE);
        faulty(0, "minds 10 10 4;", 2, 6);
        faulty(0, "minds 0 10 1;", 2, 8);
        faulty(0, "minds 1 01 1;", 2, 8);
        faulty(0, "minds 0 1 4;", 2, 10);
        faulty(0, "letter 0 joy 10;houses 7;x", 1, 25);
        String ten = times("letter 0 joy 1;", 10);
        faulty(0, ten, 0, NONE);
        faulty(0, ten + "letter 0 joy 1;", 3, 150);
        faulty(0, ten + " letter 9 joy 10;", 3, 151);
        faulty(0, ten + "houses 7;letter 0 joy 1;", 2, 157);
        String eight = "law joy joy 1;law joy blow 1;law joy money 1;law joy nothing 1;"
            + "law blow joy 1;law blow blow 1;law blow money 1;law blow nothing 1;";
        faulty(0, eight + "law joy joy 2;", 0, NONE);
        faulty(0, eight + "law money joy 1;", 3, eight.length());
        faulty(0, eight + "law money joy 10;", 3, eight.length());
        faulty(0, eight + "law joy joy 10;law money joy 10;", 2, eight.length() + 12);
        faulty(0, "mood 3 1;", 4, 9);
        faulty(0, "mood 3 1;houses 4;", 0, NONE);
        faulty(0, "houses 4;mood 3 1;houses 3;", 4, 27);
        faulty(0, "letter 3 joy 1;  ", 4, 17);
        faulty(0, "minds 0 1 1;", 4, 12);
        faulty(0, "letter 0 joy 1;minds 1 0 1;", 4, 27);
        faulty(0, "letter 0 joy 1;minds 0 1 1;letter 0 joy 1;", 0, NONE);
        faulty(0, "letter 0 joy 1;letter 0 joy 1;minds 0 2 1;minds 0 1 1;", 4, 54);
    }

    private static void faultsOfWeeksAndLogs() {
        faulty(1, "give 9;slip 9 5;burn 9;night;", 0, NONE);
        faulty(1, "give 10;", 2, 5);
        faulty(1, "slip 10 6;", 2, 5);
        faulty(1, "slip 0 6;", 2, 7);
        faulty(1, "burn 10;", 2, 5);
        faulty(1, times("night;", 40), 0, NONE);
        faulty(1, times("night;", 41), 3, 240);
        faulty(1, times("night;", 40) + "give 10;", 3, 240);
        faulty(1, "give 10;" + times("night;", 40), 2, 5);
        faulty(2, "mood 5 99;mood 5 0;", 0, NONE);
        faulty(2, "mood 6 0;", 2, 5);
        faulty(2, times("mood 0 0;", 8), 0, NONE);
        faulty(2, times("mood 0 0;", 9), 3, 72);
        faulty(2, times("mood 0 0;", 8) + "mood 6 0;", 3, 72);
    }

    // Promise 6
    private static void office() {
        SortedOffice x = Check.with(OFFICE);
        int[][] dues = {{0, 3}, {1, 6}, {2, 3}, {10, 10}, {11, 5}, {12, 10}, {20, 0}, {22, 1}, {25, 2}, {30, 0},
            {31, 1}, {32, 2}, {35, 3}, {40, 4}, {45, 9}, {50, 1}, {51, 0}, {52, NONE}, {55, 0}, {60, 1}, {61, 0},
            {62, NONE}, {65, 2}, {101, 2}, {104, 3}, {109, 0}, {100, NONE}, {115, NONE}, {116, -2}, {99, -2},
            {3, -2}, {9, -2}, {13, -2}, {16, -2}, {26, -2}, {36, -2}, {46, -2}, {56, -2}, {66, -2}, {70, -2}, {-1, -2}};
        for (int[] d : dues) {
            due("office " + d[0], x.office(0, d[0]), d[1]);
        }
        for (int odd : ODD) {
            due("office " + odd, x.office(0, odd), -2);
            due("no such office " + odd, x.office(odd, 0), -2);
        }
        due("no such office", x.office(1, 0), -2);
        SortedOffice plain = Check.with("");
        int[][] plains = {{0, 3}, {1, 0}, {2, 0}, {10, 10}, {12, 10}, {13, -2}, {20, -2}, {50, -2}};
        for (int[] d : plains) {
            due("plain office " + d[0], plain.office(0, d[0]), d[1]);
        }
        SortedOffice later = Check.with("mood 0 1;mood 0 2;houses 2;houses 4;letter 0 joy 1;letter 1 blow 2;"
            + "law joy joy 1;law joy joy 5;minds 0 1 1;minds 0 1 3;letter 3 joy 1;minds 0 2 2;");
        int[][] laters = {{0, 4}, {1, 3}, {2, 1}, {10, 2}, {50, 2}, {60, 2}, {100, 5}, {22, 3}};
        for (int[] d : laters) {
            due("later ones strike " + d[0], later.office(0, d[0]), d[1]);
        }
    }

    // Promise 7
    private static void doing() {
        SortedOffice x = Check.with(OFFICE);
        int[][] dues = {{0, NONE, 4}, {0, 0, 4}, {0, 1, 12}, {1, NONE, -3}, {1, 0, -6}, {1, 2, 0}, {1, 1, -3},
            {2, NONE, 2}, {3, 0, 3}, {5, 1, 0}, {5, NONE, 0}, {6, NONE, -1000}, {-1, 0, -1000}, {0, 4, -1000},
            {0, -2, -1000}};
        for (int[] d : dues) {
            due("doing " + d[0] + ", " + d[1], x.doing(0, d[0], d[1]), d[2]);
        }
        due("no such office", x.doing(1, 0, NONE), -1000);
        SortedOffice money = Check.with("letter 0 money 5;letter 0 money 1;law joy money 9;");
        due("half, cut, then times", money.doing(0, 0, 0), 18);
        due("half of 1", money.doing(0, 1, 0), 0);
    }

    // Promise 8
    private static void deed() {
        SortedOffice x = Check.with(OFFICE, Check.WEEK, WEEK);
        int[][] dues = {{NONE, 0, 8}, {NONE, 1, -2}, {0, 0, 0}, {0, 1, 0}, {0, 2, NONE}, {2, 0, 3}, {2, 1, NONE},
            {2, 2, NONE}, {3, 0, 1}, {3, 1, 3}, {3, 2, 1}, {5, 0, 2}, {5, 1, 5}, {5, 2, NONE}, {5, 3, -2},
            {5, -1, -2}, {8, 0, -2}, {-2, 0, -2}};
        for (int[] d : dues) {
            due("deed " + d[0] + ", " + d[1], x.deed(0, d[0], d[1]), d[2]);
        }
        due("no such week", x.deed(1, NONE, 0), -2);
        due("no such week", x.deed(-1, 0, 0), -2);
    }

    // Promise 9, 10
    private static void tillAndState() {
        SortedOffice x = Check.with(OFFICE, Check.WEEK, WEEK);
        due("till", x.till(0, 0), 7);
        due("no such week", x.till(0, 1), NONE);
        due("no such office", x.till(1, 0), NONE);
        int[][] dues = {{0, 1, 63}, {0, 4, 25}, {0, 20, NONE}, {1, 10, 14}, {1, 20, 0}, {1, 30, 1}, {2, 10, 8},
            {2, 3, -2}, {2, 20, 1}, {2, 0, 0}, {3, 0, 1}, {3, 10, 9}, {3, 11, 6}, {3, 12, 10}, {3, 20, NONE},
            {3, 3, -2}, {4, 2, 1}, {4, 11, 9}, {4, 21, 2}, {4, 31, 1}, {5, 11, 9}, {5, 21, 1}, {6, 1, 4},
            {7, 0, 1}, {7, 1, 0}, {7, 2, 1}, {7, 3, 3}, {7, 4, 30}, {7, 10, 9}, {7, 11, 11}, {7, 20, NONE},
            {7, 21, 2}, {7, 30, 2}, {7, 31, 3}, {7, 32, 0}, {7, 22, NONE}, {7, 13, -1000}, {7, 23, -1000},
            {7, 33, -1000}, {7, 5, -1000}, {7, 9, -1000}, {7, 40, -1000}, {7, -1, -1000}, {8, 0, -1000}, {-1, 0, -1000}};
        for (int[] d : dues) {
            due("state " + d[0] + ", " + d[1], x.state(0, 0, d[0], d[1]), d[2]);
        }
        due("no such office", x.state(1, 0, 0, 0), -1000);
        due("no such week", x.state(0, 1, 0, 0), -1000);
        for (int odd : ODD) {
            due("state, n " + odd, x.state(0, 0, odd, 0), odd == 7 ? 1 : -1000);
            due("state, what " + odd, x.state(0, 0, 0, odd), -1000);
        }
    }

    private static void tillIs(String office, String week, int want) {
        SortedOffice x = Check.with(office, Check.WEEK, week);
        due("till of " + week, x.till(0, 0), want);
    }

    private static void deedsThatCannotBe() {
        String two = "houses 2;letter 0 joy 1;letter 1 joy 1;";
        tillIs(two, "", 0);
        tillIs(two, "give 0;slip 1 0;", 2);
        tillIs(two, "give 2;", 0);
        tillIs(two, "burn 2;", 0);
        tillIs(two, "night;slip 0 0;", 1);
        tillIs(two, "night;slip 0 2;", 1);
        tillIs(two, "give 0;give 0;", 1);
        tillIs(two, "slip 0 1;give 0;", 1);
        tillIs(two, "burn 0;slip 0 1;", 1);
        tillIs(two, "burn 0;burn 0;night;", 1);
        tillIs("", "night;night;", 2);
        tillIs("", "give 0;night;", 0);
    }

    private static void nights() {
        SortedOffice x = Check.with("mood 0 9;mood 1 10;mood 2 12;letter 0 blow 9;letter 0 blow 9;letter 2 joy 5;"
            + "law blow blow 4;", Check.WEEK, "night;night;night;give 0;night;give 1;give 2;");
        int[][] dues = {{1, 10, 10}, {1, 11, 10}, {1, 12, 11}, {2, 10, 10}, {3, 12, 10}, {4, 10, 1}, {5, 10, 2},
            {5, 20, NONE}, {6, 10, -7}, {7, 0, 4}, {7, 3, -13}, {7, 4, 18}};
        for (int[] d : dues) {
            due("nights " + d[0] + ", " + d[1], x.state(0, 0, d[0], d[1]), d[2]);
        }
    }

    // Promise 11
    private static void order() {
        SortedOffice x = Check.with(OFFICE);
        int[][] dues = {{0, 0, NONE, 25}, {0, 0, 0, 3}, {0, 0, 1, 1}, {0, 0, 2, 0}, {0, 0, 3, -1000},
            {0, 1, NONE, 11}, {0, 1, 0, 0}, {0, 1, 1, 1}, {0, 1, 2, 3}, {1, 0, NONE, 7}, {1, 0, 0, 2}, {1, 0, 1, 4},
            {1, 1, NONE, 5}, {1, 1, 0, 4}, {2, 0, NONE, 10}, {2, 0, 0, 5}, {2, 0, 1, -1000}, {3, 0, NONE, -1000},
            {-1, 0, NONE, -1000}, {0, 0, -2, -1000}, {0, 0, 10, -1000}};
        for (int[] d : dues) {
            due("order " + d[0] + ", " + d[1] + ", " + d[2], x.order(0, d[0], d[1] == 1, d[2]), d[3]);
        }
        for (int odd : ODD) {
            due("order, k " + odd, x.order(0, 0, false, odd), -1000);
            due("order, house " + odd, x.order(0, odd, false, NONE), -1000);
            due("order, office " + odd, x.order(odd, 0, false, NONE), -1000);
        }
        SortedOffice ten = Check.with("houses 1;" + times("letter 0 joy 9;", 10) + "law joy joy 9;");
        due("ten letters", ten.order(0, 0, false, NONE), 10 + 9 + 9 * 81);
        for (int k = 0; k < 10; k++) {
            due("the first order by numbers", ten.order(0, 0, false, k), k);
            due("the first order by numbers", ten.order(0, 0, true, k), k);
        }
        SortedOffice none = Check.with("mood 2 0;");
        due("no letters", none.order(0, 2, true, NONE), 0);
        due("no letters", none.order(0, 2, true, 0), -1000);
    }

    // Promise 12
    private static void mean() {
        SortedOffice x = Check.with(OFFICE);
        due("mean", x.mean(0, 0, false), 50);
        due("mean under", x.mean(0, 0, true), 3);
        due("mean", x.mean(0, 1, false), 6);
        due("mean under", x.mean(0, 1, true), 1);
        due("no house", x.mean(0, 3, true), FAR);
        due("no house", x.mean(0, -1, false), FAR);
        due("no office", x.mean(1, 0, false), FAR);
        SortedOffice low = Check.with("mood 0 0;letter 0 blow 9;letter 0 joy 1;law blow joy 0;");
        due("below 0", low.mean(0, 0, false), -17);
        due("below 0, under", low.mean(0, 0, true), 2);
        SortedOffice zero = Check.with("mood 0 0;");
        due("0", zero.mean(0, 0, false), 0);
        due("0, under", zero.mean(0, 0, true), 1);
    }

    // Promise 13
    private static void spared() {
        SortedOffice x = Check.with(OFFICE);
        int[][] dues = {{1, 5, 6, 1, 2}, {1, 3, 6, 7, 10}, {1, 0, 7, 1, 1}, {1, 0, 8, 0, 1}, {1, 10, 5, 1, 1},
            {1, 10, 6, 0, 1}, {1, 1, 4, 91, 100}, {2, 4, 10, 1, 1}, {2, 4, 11, 0, 1}, {0, 2, 0, 1, 1}, {0, 2, 99, 0, 1}};
        for (int[] d : dues) {
            due("spared " + d[0] + ", " + d[1] + ", " + d[2], x.spared(0, d[0], d[1], d[2], false), d[3]);
            due("spared under " + d[0] + ", " + d[1] + ", " + d[2], x.spared(0, d[0], d[1], d[2], true), d[4]);
        }
        int[][] wrong = {{0, 0, -1, 5}, {0, 0, 11, 5}, {0, 0, 5, -1}, {0, 0, 5, 100}, {0, 3, 5, 5}, {0, -1, 5, 5},
            {1, 0, 5, 5}, {-1, 0, 5, 5}};
        for (int[] w : wrong) {
            due("spared, wrong", x.spared(w[0], w[1], w[2], w[3], true), NONE);
        }
        SortedOffice ten = Check.with("mood 0 0;" + times("letter 0 joy 1;", 10));
        due("ten letters", ten.spared(0, 0, 3, 1, true), 10000000000L);
        due("ten letters", ten.spared(0, 0, 3, 1, false), 10000000000L - 59049L);
    }

    // Promise 14, 15, and FOLLOW, LOOSE of 28
    private static void racks() {
        SortedOffice x = Check.with(OFFICE);
        int[][] dues = {{0, 0, 0}, {0, 1, 2}, {0, 2, 1}, {0, 3, 3}, {1, 1, 0}, {1, 2, 2}, {5, 0, 3}, {5, 1, 2},
            {5, 2, 0}, {5, 3, 3}, {2, 999, 2}, {0, 8, 0}, {0, 992, 0}, {0, 999, 1}, {0, 1000, NONE}, {0, -1, NONE},
            {6, 0, NONE}, {-1, 0, NONE}};
        for (int[] d : dues) {
            due("rack " + d[0] + ", " + d[1], x.rack(0, d[0], d[1]), d[2]);
        }
        due("no office", x.rack(1, 0, 0), NONE);
        int[] settled = {NONE, 8, 35, -2, -2};
        for (int what = 0; what < 5; what++) {
            due("settled " + what, x.settled(0, what), settled[what]);
        }
        due("settled -1", x.settled(0, -1), -2);
        due("no office", x.settled(1, 0), -2);
        due("follow", x.ruled(0, 1), 3);
        due("loose", x.ruled(0, 2), 1);
        tryRacks("", 0, 1, 0, 0, 0);
        tryRacks("letter 0 joy 1;", 0, 1, 0, 1, 0);
        tryRacks("letter 0 joy 1;letter 0 joy 1;minds 0 1 0;minds 1 0 0;", 0, 1, 0, 2, 0);
        tryRacks("letter 0 joy 1;letter 0 blow 1;minds 0 1 3;minds 1 0 1;", 0, 1, 0, 2, 0);
        tryRacks("letter 0 joy 1;letter 0 blow 1;minds 0 1 0;minds 1 0 0;", NONE, 2, 3, 2, 1);
        tryRacks("letter 0 joy 1;letter 0 joy 1;minds 0 1 2;minds 1 0 2;", NONE, 2, 3, 2, 1);
        tryRacks(times("letter 0 joy 1;", 4) + "minds 0 1 1;minds 1 2 1;minds 2 3 1;", 3, 1, 0, 4, 0);
        String chain = times("letter 0 joy 1;", 10);
        for (int l = 0; l < 9; l++) {
            chain += "minds " + l + " " + (l + 1) + " 1;";
        }
        tryRacks(chain, 9, 1, 0, 10, 0);
        tryRacks(times("letter 0 joy 1;", 10) + "minds 9 8 1;minds 8 9 0;minds 7 6 1;minds 6 5 0;minds 5 7 0;"
            + "minds 4 3 1;minds 3 2 0;minds 2 1 0;minds 1 0 0;minds 0 4 0;", NONE, 120, 1023, 5, 1 + 32 + 256);
    }

    private static void tryRacks(String office, int settled, int again, int blind, int follow, int loose) {
        SortedOffice x = Check.with(office);
        due("settled of " + office, x.settled(0, 0), settled);
        due("again of " + office, x.settled(0, 1), again);
        due("blind of " + office, x.settled(0, 2), blind);
        due("follow of " + office, x.ruled(0, 1), follow);
        due("loose of " + office, x.ruled(0, 2), loose);
    }

    // Promise 16
    private static void bags() {
        SortedOffice x = Check.with(OFFICE);
        int[][] dues = {{9, 10, 2, 0, 0, 0, 1, 0, 0}, {9, 2, 3, 0, 0, 1, 1, 2, 2}, {13, 6, 1, 0, 0, 0, 0, 0, 0},
            {99, 1, 6, 0, 1, 2, 3, 4, 5}, {8, 10, NONE, NONE, NONE, NONE, NONE, NONE, NONE}};
        for (int[] d : dues) {
            for (int k = NONE; k < 6; k++) {
                due("bags " + d[0] + ", " + d[1] + ", " + k, x.bags(0, d[0], d[1], k), d[3 + k]);
            }
        }
        int[][] wrong = {{0, 0, 1, NONE}, {0, 100, 1, NONE}, {0, 9, 0, NONE}, {0, 9, 11, NONE}, {0, 9, 1, 6},
            {0, 9, 1, -2}, {1, 9, 1, NONE}, {-1, 9, 1, NONE}};
        for (int[] w : wrong) {
            due("bags, wrong", x.bags(w[0], w[1], w[2], w[3]), NONE);
        }
        SortedOffice none = Check.with("");
        due("no letters", none.bags(0, 1, 1, NONE), 0);
        due("no letters", none.bags(0, 1, 1, 0), NONE);
        // the first letters may not lie together, or three days are wanted
        SortedOffice tight = Check.with("letter 0 joy 3;letter 0 joy 3;letter 0 joy 6;letter 0 joy 6;");
        int[] days = {2, 0, 1, 0, 1};
        for (int k = NONE; k < 4; k++) {
            due("tight " + k, tight.bags(0, 9, 4, k), days[k + 1]);
        }
    }

    // Promise 17
    private static void sorters() {
        String[] offices = {"", "letter 0 blow 4;", "letter 0 joy 3;letter 0 joy 9;letter 0 joy 1;",
            "letter 0 joy 1;letter 0 joy 5;", "letter 0 blow 2;letter 1 blow 2;", "letter 0 money 5;letter 0 joy 2;",
            "letter 0 joy 1;letter 0 joy 9;letter 0 joy 2;letter 0 joy 2;law joy joy 9;"};
        int[][] dues = {{0, NONE}, {-4, 0}, {-5, 0}, {4, 1}, {0, 0}, {0, 0}, {8, 1}};
        for (int i = 0; i < offices.length; i++) {
            SortedOffice x = Check.with(offices[i]);
            due("sorters of " + offices[i], x.sorters(0, false), dues[i][0]);
            due("sorters, first, of " + offices[i], x.sorters(0, true), dues[i][1]);
            due("no office", x.sorters(1, true), -1000);
            due("no office", x.sorters(-1, false), -1000);
        }
    }

    // Promise 18
    private static void fact() {
        SortedOffice x = Check.with("", Check.LOG, "mood 5 99;mood 0 7;mood 0 8;");
        int[][] dues = {{NONE, 0, 3}, {NONE, 1, -2}, {0, 0, 5}, {0, 1, 99}, {1, 1, 7}, {2, 0, 0}, {2, 1, 8},
            {2, 2, -2}, {2, -1, -2}, {3, 0, -2}, {-2, 0, -2}};
        for (int[] d : dues) {
            due("fact " + d[0] + ", " + d[1], x.fact(0, d[0], d[1]), d[2]);
        }
        due("no log", x.fact(1, NONE, 0), -2);
        due("no log", x.fact(-1, 0, 0), -2);
    }

    // Promise 19
    private static void fits() {
        SortedOffice x = Check.with(OFFICE, Check.LOG, "mood 0 8;mood 1 10;");
        int[][] dues = {{0, 1}, {1, 3}, {2, 1}, {3, 0}, {10, 13}, {11, -2}, {4, -2}, {9, -2}, {-1, -2}};
        for (int[] d : dues) {
            due("fits " + d[0], x.fits(0, 0, d[0]), d[1]);
        }
        for (int odd : ODD) {
            due("fits " + odd, x.fits(0, 0, odd), -2);
        }
        due("no office", x.fits(1, 0, 0), -2);
        due("no log", x.fits(0, 1, 0), -2);
        // two joys, two houses: 11 moods 12 and 10, 11 and 11 if one slips
        String joys = "houses 2;letter 0 joy 1;letter 0 joy 1;";
        tryFits(joys, "", new int[] {3, NONE, NONE, 0, 10, 11, 99});
        tryFits(joys, "mood 0 11;", new int[] {2, NONE, 1, 0, 10, 11});
        tryFits(joys, "mood 0 12;", new int[] {1, NONE, NONE, 0, 99});
        tryFits(joys, "mood 0 12;mood 0 11;", new int[] {0, NONE, NONE, NONE});
        tryFits(joys, "mood 2 10;", new int[] {-2, -2, -2, -2});
        tryFits("houses 1;letter 0 joy 1;", "", new int[] {1, NONE, NONE, 0, 99});
        // one letter, three houses: HOUSE 1 parts 2 from 1, and so does HOUSE 2; HOUSE 0 parts 1 from 2
        tryFits("letter 0 joy 1;", "", new int[] {3, NONE, NONE, 0, 10, 20, 99});
        tryFits("letter 0 joy 1;", "mood 0 10;", new int[] {2, 0, NONE, 1, 10, 20});
    }

    // Promise 4, 8, 9, 18, 19, 30: as many as may be, and nothing is left of a longer text that was told ahead
    private static void shorterBehindLonger() {
        String joys = "houses 2;letter 0 joy 1;letter 0 joy 1;";
        String eight = "mood 0 11;mood 1 11;".repeat(4);
        tryFits(joys, eight, new int[] {2, NONE, 1, 0, 10, 11});
        tryFits(joys, eight.substring(10) + "mood 5 1;", new int[] {-2, -2, -2, -2});
        SortedOffice x = Check.with(joys, Check.LOG, "mood 0 11;" + "mood 5 1;".repeat(7));
        due("a house that is not there", x.fits(0, 0, 0), -2);
        due("then of it", x.then(0, 0, 0, 0), -1000);
        due("a shorter log", Check.tell(x, Check.LOG, 0, "mood 0 11;"), 0);
        due("facts", x.fact(0, NONE, 0), 1);
        due("fact behind the last", x.fact(0, 1, 0), -2);
        due("fits", x.fits(0, 0, 0), 2);
        due("then", x.then(0, 0, 1, 1), 11);
        due("a long week", Check.tell(x, Check.WEEK, NONE, "night;".repeat(40)), 0);
        due("till", x.till(0, 0), 40);
        due("nights", x.state(0, 0, 40, 0), 40);
        due("a shorter week", Check.tell(x, Check.WEEK, 0, "give 1;night;"), 0);
        due("deeds", x.deed(0, NONE, 0), 2);
        due("deed behind the last", x.deed(0, 2, 0), -2);
        due("till", x.till(0, 0), 2);
        due("nights", x.state(0, 0, 2, 0), 1);
        due("no such state", x.state(0, 0, 3, 0), -1000);
    }

    private static void tryFits(String office, String log, int[] dues) {
        SortedOffice x = Check.with(office, Check.LOG, log);
        for (int i = 0; i < 4; i++) {
            due("fits " + i + " of " + log, x.fits(0, 0, i), dues[i]);
        }
        for (int i = 4; i < dues.length; i++) {
            due("fits " + (6 + i) + " of " + log, x.fits(0, 0, 6 + i), dues[i]);
        }
        due("fits behind the last of " + log, x.fits(0, 0, 6 + dues.length), -2);
    }

    // Promise 20; seed 1 draws: burn 0, give 0, give 1, give 2, slip 0 1, night, slip 2 1, night
    private static void drawn() {
        SortedOffice x = Check.with("houses 2;letter 0 joy 4;letter 1 blow 3;letter 0 money 6;law joy blow 2;");
        int[][] dues = {{0, 1, 7}, {1, 1, 6}, {2, 1, 6}, {3, 11, 7}, {3, 1, 4}, {4, 10, 13}, {4, 20, 2}, {4, 21, 1},
            {4, 30, 1}, {4, 3, 0}, {5, 2, 0}, {6, 0, 1}, {6, 10, 12}, {6, 11, 8}, {6, 20, NONE}, {8, 0, 2},
            {8, 4, 20}, {8, 12, -1000}, {8, 5, -1000}, {8, -1, -1000}, {8, 40, -1000}, {61, 0, -1000}, {-1, 0, -1000}};
        for (int[] d : dues) {
            due("drawn " + d[0] + ", " + d[1], x.drawn(0, 1, d[0], d[1]), d[2]);
        }
        due("no office", x.drawn(1, 1, 1, 0), -1000);
        due("no office", x.drawn(-1, 1, 1, 0), -1000);
        SortedOffice none = Check.with("");
        due("without letters", none.drawn(0, 1, 60, 0), 10);
        due("without letters", none.drawn(0, 1, 10, 0), 0);
    }

    // Promise 21, 22, 23
    private static void dearSpoiltCalm() {
        SortedOffice x = Check.with(OFFICE);
        int[] dear = {12, 8, 4, 6, 0, 0, -1000};
        for (int l = 0; l < dear.length; l++) {
            due("dear " + l, x.dear(0, l), dear[l]);
        }
        due("dear -1", x.dear(0, -1), -1000);
        due("no office", x.dear(1, 0), -1000);
        due("less with it", Check.with("letter 0 blow 9;").dear(0, 0), -9);
        int[] spoilt = {14, 0, 0, -1000};
        int[] lowest = {8, 5, 10, -1000};
        for (int h = 0; h < 4; h++) {
            due("spoilt " + h, x.spoilt(0, h, false), spoilt[h]);
            due("lowest " + h, x.spoilt(0, h, true), lowest[h]);
        }
        due("spoilt -1", x.spoilt(0, -1, true), -1000);
        due("no office", x.spoilt(1, 0, true), -1000);
        due("never below what it is at first", Check.with("letter 0 joy 1;").spoilt(0, 0, true), 10);
        due("below 0", Check.with("mood 0 0;letter 0 blow 1;letter 0 joy 9;").spoilt(0, 0, true), -1);
        int[][] calm = {{0, 0, 0, 0}, {0, 8, 0, 0}, {0, 9, 1, 2}, {0, 10, 1, 2}, {0, 11, NONE, NONE},
            {0, 99, NONE, NONE}, {0, 100, NONE, NONE}, {0, -1, NONE, NONE}, {1, 5, 0, 0}, {3, 5, NONE, NONE},
            {-1, 5, NONE, NONE}};
        for (int[] c : calm) {
            due("calm " + c[0] + ", " + c[1], x.calm(0, c[0], c[1], false), c[2]);
            due("calm, which " + c[0] + ", " + c[1], x.calm(0, c[0], c[1], true), c[3]);
        }
        due("no office", x.calm(1, 0, 5, true), NONE);
        SortedOffice two = Check.with("letter 1 joy 1;letter 0 blow 2;letter 0 blow 2;letter 0 joy 1;letter 0 blow 2;");
        due("of several the least", two.calm(0, 0, 8, true), 2 + 4);
        due("how many", two.calm(0, 0, 8, false), 2);
        due("with joy between", two.calm(0, 0, 7, true), 2);
    }

    // Promise 24, 27
    private static void hopedAndStrike() {
        SortedOffice x = Check.with(OFFICE);
        long[][] hoped = {{0, 25, 1}, {1, 77, 3}, {6, 28, 1}, {7, FAR, FAR}, {-1, FAR, FAR}};
        for (long[] d : hoped) {
            due("hoped " + d[0], x.hoped(0, (int) d[0], false), d[1]);
            due("hoped under " + d[0], x.hoped(0, (int) d[0], true), d[2]);
        }
        due("no office", x.hoped(1, 0, true), FAR);
        SortedOffice low = Check.with("houses 1;mood 0 0;letter 0 blow 3;letter 0 blow 4;law blow blow 2;");
        due("below 0", low.hoped(0, 1, false), -7);
        due("below 0, under", low.hoped(0, 1, true), 2);
        due("a law", low.hoped(0, 2, false), -11);
        SortedOffice two = Check.with("houses 2;letter 0 joy 3;letter 0 blow 2;");
        int[][] strike = {{0, 1, 1}, {1, 1, 2}, {2, 1, 2}, {3, NONE, NONE}, {-1, NONE, NONE}};
        for (int[] d : strike) {
            due("strike " + d[0], two.strike(0, d[0], false), d[1]);
            due("strike under " + d[0], two.strike(0, d[0], true), d[2]);
        }
        due("no office", two.strike(1, 0, true), NONE);
        SortedOffice blow = Check.with("letter 0 blow 1;letter 0 nothing 1;letter 0 nothing 1;letter 0 nothing 1;");
        due("never", blow.strike(0, 3, false), 0);
        due("never, under", blow.strike(0, 3, true), 1);
        due("another k", blow.strike(0, 4, true), NONE);
        SortedOffice none = Check.with("");
        due("without letters", none.strike(0, 0, false), 1);
        due("without letters", none.strike(0, 1, false), NONE);
        due("without letters", none.hoped(0, 0, false), 30);
    }

    // Promise 25, 26
    private static void strongestAndSwapped() {
        SortedOffice x = Check.with(OFFICE);
        due("strongest", x.strongest(0, false), 104);
        due("strongest, much", x.strongest(0, true), 8);
        due("no office", x.strongest(1, false), NONE);
        due("no laws", Check.with("letter 0 joy 1;").strongest(0, true), NONE);
        SortedOffice idle = Check.with("law nothing joy 2;law money joy 2;");
        due("of several the least", idle.strongest(0, false), 108);
        due("by nothing", idle.strongest(0, true), 0);
        SortedOffice less = Check.with("letter 0 joy 2;letter 0 joy 3;law joy joy 0;");
        due("more without it", less.strongest(0, true), 2);
        SortedOffice s = Check.with("houses 2;letter 0 joy 5;letter 0 joy 4;letter 1 blow 2;letter 1 nothing 1;"
            + "law blow joy 9;");
        due("swapped", s.swapped(0, false), 3);
        due("swapped, much", s.swapped(0, true), 67);
        due("no office", s.swapped(1, false), -1000);
        due("no office", s.swapped(-1, true), -1000);
        SortedOffice none = Check.with("letter 0 joy 5;letter 1 joy 4;");
        due("none is better", none.swapped(0, false), NONE);
        due("as it is", none.swapped(0, true), 39);
        due("nothing has changed", s.office(0, 20), 0);
        due("nothing has changed", x.office(0, 104), 3);
    }

    // Promise 28
    private static void ruled() {
        SortedOffice x = Check.with(OFFICE);
        int[][] dues = {{0, 2}, {1, 3}, {2, 1}, {3, 2}, {4, NONE}, {9, NONE}, {-1, NONE}, {10, 0}, {11, 2}, {12, 1},
            {13, NONE}};
        for (int[] d : dues) {
            due("ruled " + d[0], x.ruled(0, d[0]), d[1]);
        }
        for (int odd : ODD) {
            due("ruled " + odd, x.ruled(0, odd), NONE);
        }
        due("no office", x.ruled(1, 0), NONE);
        SortedOffice three = Check.with("letter 0 joy 1;letter 0 joy 2;letter 0 joy 3;letter 1 joy 1;law joy joy 1;");
        due("couples, next ones or not", three.ruled(0, 0), 3);
        due("touched by none", three.ruled(0, 3), 0);
        int[] ranked = {0, 1, 2};
        SortedOffice alike = Check.with("");
        for (int k = 0; k < 3; k++) {
            due("ranked, alike", alike.ruled(0, 10 + k), ranked[k]);
        }
    }

    // Promise 29
    private static void after() {
        SortedOffice x = Check.with(OFFICE, Check.WEEK, WEEK);
        int[] dues = {1, 5, 18, 1, -1000};
        for (int what = 0; what < dues.length; what++) {
            due("after " + what, x.after(0, 0, what), dues[what]);
        }
        due("after -1", x.after(0, 0, -1), -1000);
        due("no office", x.after(1, 0, 0), -1000);
        due("no week", x.after(0, 1, 0), -1000);
        SortedOffice y = Check.with("letter 2 blow 9;letter 1 blow 9;letter 0 nothing 1;letter 0 money 1;",
            Check.WEEK, "give 0;night;slip 1 0;burn 2;give 3;");
        due("the least house at that mood", y.after(0, 0, 0), 0);
        due("in any state", y.after(0, 0, 1), 1);
        due("none failed", y.after(0, 0, 2), 0);
        due("burnt ones did not come", y.after(0, 0, 3), 1);
    }

    // Promise 30
    private static void then() {
        SortedOffice x = Check.with(OFFICE, Check.LOG, "mood 0 8;mood 1 10;");
        int[][] dues = {{0, 0, 8}, {0, 1, 10}, {0, 2, 10}, {0, 3, -1000}, {0, -1, -1000}, {1, 0, -1000}, {-1, 0, -1000}};
        for (int[] d : dues) {
            due("then " + d[0] + ", " + d[1], x.then(0, 0, d[0], d[1]), d[2]);
        }
        due("no office", x.then(1, 0, 0, 0), -1000);
        due("no log", x.then(0, 1, 0, 0), -1000);
        SortedOffice y = Check.with("houses 1;", Check.LOG, "mood 1 10;");
        due("a house that is not there", y.then(0, 0, 0, 0), -1000);
    }

    // Promise 32, 33
    private static void images() {
        SortedOffice x = Check.with(OFFICE, Check.WEEK, WEEK);
        Check.due("image -1", x.image(-1), false);
        Check.due("image 3", x.image(3), false);
        Check.due("again 0", x.again(0), false);
        due("a fault", Check.tell(x, 2, NONE, "mood 0 8;mood"), NONE);
        Check.put(x, "mood 0 8;");
        Check.due("image 0", x.image(0), true);
        due("log", x.text(2, NONE), 0);
        due("fault", x.fault(0), 0);
        due("office", Check.tell(x, 0, 0, "houses 1;"), 0);
        due("week", Check.tell(x, 1, 0, ""), 0);
        due("office", Check.tell(x, 0, NONE, "houses 2;"), 1);
        Check.due("image 2", x.image(2), true);
        Check.due("again 1", x.again(1), false);
        Check.due("again 0", x.again(0), true);
        due("fault", x.fault(0), 1);
        due("place", x.fault(1), 13);
        due("offices", x.count(0), 1);
        due("weeks", x.count(1), 1);
        due("logs", x.count(2), 0);
        due("letters", x.office(0, 1), 6);
        due("till", x.till(0, 0), 7);
        due("tape", x.end(10), NONE);
        due("tape", x.text(2, NONE), 0);
        due("tape", x.fact(0, 0, 1), 8);
        Check.due("again 2", x.again(2), true);
        due("offices", x.count(0), 2);
        due("houses", x.office(0, 0), 1);
        due("houses", x.office(1, 0), 2);
        due("tape", x.end(1), NONE);
        due("changed behind the image", Check.tell(x, 0, 0, "houses 5;"), 0);
        Check.due("again 2, once more", x.again(2), true);
        due("houses", x.office(0, 0), 1);
        Check.due("again 0, once more", x.again(0), true);
        due("letters", x.office(0, 1), 6);
        Check.due("again max", x.again(Integer.MAX_VALUE), false);
        Check.due("again min", x.again(Integer.MIN_VALUE), false);
    }

    // Promise 32, 33: each number of what is told
    private static void wholeImages() {
        String[] first = {OFFICE + "minds 0 1 2;mood 1 33;", WEEK, "mood 0 8;mood 2 77;"};
        String[] second = {"houses 1;mood 0 3;letter 0 blow 9;law nothing joy 7;", "night;slip 1 2;", "mood 5 1;"};
        SortedOffice x = new SortedOffice();
        for (int sort = 0; sort < 3; sort++) {
            due("one", Check.tell(x, sort, NONE, first[sort]), 0);
            due("other", Check.tell(x, sort, NONE, second[sort]), 1);
        }
        Check.due("image", x.image(1), true);
        String before = allTold(first, second);
        for (int sort = 0; sort < 3; sort++) {
            due("the other way round", Check.tell(x, sort, 0, second[sort]), 0);
            due("the other way round", Check.tell(x, sort, 1, first[sort]), 1);
        }
        Check.due("changed", allTold(x).equals(allTold(second, first)), true);
        Check.due("again", x.again(1), true);
        Check.due("as it was", allTold(x).equals(before), true);
    }

    private static String allTold(String[] first, String[] second) {
        SortedOffice x = new SortedOffice();
        for (int sort = 0; sort < 3; sort++) {
            due("one", Check.tell(x, sort, NONE, first[sort]), 0);
            due("other", Check.tell(x, sort, NONE, second[sort]), 1);
        }
        return allTold(x);
    }

    private static String allTold(SortedOffice x) {
        StringBuilder s = new StringBuilder();
        for (int at = 0; at < 2; at++) {
            for (int what = 0; what < 70; what++) {
                s.append(what % 10 < 6 ? x.office(at, what) : 0).append(' ');
            }
            for (int what = 100; what < 116; what++) {
                s.append(x.office(at, what)).append(' ');
            }
            for (int k = 0; k < 9; k++) {
                s.append(x.deed(at, k, 0)).append(x.deed(at, k, 1)).append(x.deed(at, k, 2)).append(' ');
            }
            for (int k = 0; k < 3; k++) {
                s.append(x.fact(at, k, 0)).append(x.fact(at, k, 1)).append(' ');
            }
        }
        return s.toString();
    }
}

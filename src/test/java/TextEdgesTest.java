import java.util.ArrayList;
import java.util.List;

/** Term 1, and promises 2 to 5: each sentence that names an edge of the tape, of a text, of a FAULT. */
public final class TextEdgesTest {
    private static final int NONE = SortedOffice.NONE;
    private static final int OFFICE = Check.OFFICE;
    private static final int WEEK = Check.WEEK;
    private static final int LOG = Check.LOG;
    private static final int[] FAR = {Integer.MIN_VALUE, -1000, 1000, Integer.MAX_VALUE};

    private static final String TEN = "letter 0 joy 1;".repeat(10);
    private static final String EIGHT = "law joy joy 1;law joy blow 1;law joy money 1;law joy nothing 1;"
        + "law blow joy 1;law blow blow 1;law blow money 1;law blow nothing 1;";
    /** Each line, token by token. */
    private static final String[][] LINES = {
        {"houses 3 ;", "mood 1 7 ;", "letter 0 joy 1 ;", "law joy blow 2 ;", "minds 0 1 2 ;"},
        {"give 0 ;", "slip 0 1 ;", "burn 0 ;", "night ;"},
        {"mood 0 9 ;"}};
    private static final String[] TOKENS = {"houses", "mood", "letter", "law", "minds", "give", "slip", "burn", "night",
        "joy", "blow", "money", "nothing", "7", "00", ";", "x", "100", "?"};

    public static void main(String[] args) {
        tape();
        bytes();
        cut();
        taken();
        refused();
        latestFault();
        housesAndMoods();
        letters();
        laws();
        minds();
        deeds();
        facts();
        tokens();
        lines();
        strikes();
        faultOne();
        firstByPlace();
        tooMany();
        notThere();
        offices();
        Check.finish();
    }

    private static void due(String call, long got, long want) {
        Check.due(call, got, want);
    }

    private static void edge(String words) {
        Check.sentence("term 1", words);
    }

    private static void promise(int number, String words) {
        Check.sentence("promise " + number, words);
    }

    private static int feedBlanks(SortedOffice x) {
        return x.feed(0x20202020, 0x20202020, 0x20202020, 0x20202020, 0x20202020);
    }

    private static SortedOffice full() {
        SortedOffice x = new SortedOffice();
        for (int n = 20; n <= 600; n += 20) {
            due("feed", feedBlanks(x), n);
        }
        return x;
    }

    // ---- promises 2, 3

    private static void tape() {
        promise(2, "The tape: twenty bytes come behind it: how many it has.");
        SortedOffice x = full();
        edge("THE TAPE has at most 600 bytes.");
        due("all of them", x.end(600), 600);
        due("one more", x.end(601), NONE);
        Check.fine(OFFICE, " ".repeat(600));
        Check.fine(WEEK, "night;".repeat(20) + " ".repeat(480));
        due("the last byte is read", Check.with(" ".repeat(591) + "houses 5;").office(0, 0), 5);
        Check.faulty(OFFICE, " ".repeat(592) + "houses 5", 1, 600);
        Check.faulty(OFFICE, " ".repeat(599) + "?", 1, 599);
        Check.faulty(OFFICE, "letter 5 joy 9;" + " ".repeat(585), 4, 600);

        promise(2, "NONE, and nothing comes, if there would be more than 600.");
        due("feed a full tape", feedBlanks(x), NONE);
        due("feed it again", x.feed(-1, -1, -1, -1, -1), NONE);
        due("nothing came", x.end(601), NONE);
        due("none was lost", x.end(600), 600);
        for (int n = 599; n > 580; n--) {
            due("end " + n, x.end(n), n);
            due("feed behind " + n, feedBlanks(x), NONE);
            due("nothing came behind " + n, x.end(n + 1), NONE);
        }
        due("end 580", x.end(580), 580);
        due("just 600", feedBlanks(x), 600);
        due("what was refused is not in the text", x.text(OFFICE, NONE), 0);
    }

    private static void bytes() {
        promise(2, "of each number the highest first");
        SortedOffice x = new SortedOffice();
        // "houses 4;mood 3 21; " in five numbers
        due("feed", x.feed(0x686f7573, 0x65732034, 0x3b6d6f6f, 0x64203320, 0x32313b20), 20);
        due("text", x.text(OFFICE, NONE), 0);
        due("houses", x.office(0, 0), 4);
        due("mood", x.office(0, 13), 21);
        for (int at = 0; at < 20; at++) {
            int[] five = {0x20202020, 0x20202020, 0x20202020, 0x20202020, 0x20202020};
            five[at / 4] |= 0xff << 24 - at % 4 * 8;
            due("feed", x.feed(five[0], five[1], five[2], five[3], five[4]), 20);
            due("text", x.text(OFFICE, 0), NONE);
            due("place of byte " + at, x.fault(1), at);
        }
        promise(2, "twenty bytes come behind it");
        due("feed", x.feed(0x686f7573, 0x65732020, 0x20202020, 0x20202020, 0x20202020), 20);
        due("cut in a word", x.end(3), 3);
        due("goes on behind it", x.feed(0x73657320, 0x353b2020, 0x20202020, 0x20202020, 0x20202020), 23);
        due("one text", x.text(OFFICE, 0), 0);
        due("houses", x.office(0, 0), 5);
    }

    /** A text cut to its first n bytes is read like these bytes alone. */
    private static void cutTo(int sort, String text, int n) {
        SortedOffice x = new SortedOffice();
        Check.put(x, text);
        due("end", x.end(n), n);
        SortedOffice alone = new SortedOffice();
        int want = Check.tell(alone, sort, NONE, text.substring(0, n));
        due(text + " cut to " + n, x.text(sort, NONE), want);
        due("fault of " + text + " cut to " + n, x.fault(0), alone.fault(0));
        due("place in " + text + " cut to " + n, x.fault(1), alone.fault(1));
    }

    private static void cut() {
        promise(3, "The tape has its first n bytes alone: n.");
        SortedOffice x = new SortedOffice();
        due("an empty tape", x.end(0), 0);
        due("feed", feedBlanks(x), 20);
        due("all of it", x.end(20), 20);
        due("one less", x.end(19), 19);
        due("what was cut is gone", x.end(20), NONE);
        due("none", x.end(0), 0);
        due("what was cut is gone", x.end(1), NONE);
        Check.put(x, "houses 5;mood");
        due("cut", x.end(9), 9);
        due("the first bytes alone", x.text(OFFICE, NONE), 0);
        due("houses", x.office(0, 0), 5);

        promise(3, "its first n bytes alone: what was cut is not read");
        String[] texts = {"houses 06;letter 5 nothing 9;law joy blow 0;mood 00 12;", "night;give 01;slip 03 2;nights;",
            "mood 05 99;mood 10 10;"};
        for (int sort = 0; sort < 3; sort++) {
            for (int n = 0; n <= texts[sort].length(); n++) {
                cutTo(sort, texts[sort], n);
            }
        }
        promise(3, "NONE if it has not so many, or n is below 0.");
        due("of an empty tape", x.end(1), NONE);
        due("feed", feedBlanks(x), 20);
        due("one more than it has", x.end(21), NONE);
        due("below 0", x.end(-1), NONE);
        for (int n : FAR) {
            due("far off", x.end(n), NONE);
        }
        due("nothing was cut", x.end(20), 20);
        due("nothing came", feedBlanks(x), 40);
    }

    // ---- promises 4, 5

    private static void taken() {
        for (int sort = 0; sort < 3; sort++) {
            promise(4, "a further one (at NONE), or in the place of one: its number");
            SortedOffice x = new SortedOffice();
            due("the first", Check.tell(x, sort, NONE, ""), 0);
            due("in its place", Check.tell(x, sort, 0, ""), 0);
            due("one of them", x.count(sort), 1);
            due("a further one", Check.tell(x, sort, NONE, ""), 1);
            due("in the place of the first", Check.tell(x, sort, 0, ""), 0);
            due("in the place of the last", Check.tell(x, sort, 1, ""), 1);
            due("two of them", x.count(sort), 2);
            due("none of the others", x.count((sort + 1) % 3), 0);

            promise(4, "The tape is taken (and is empty then)");
            due("behind a text", Check.tell(x, sort, 0, " \n"), 0);
            due("empty", x.end(1), NONE);
            due("behind a FAULT", Check.tell(x, sort, 0, "?"), NONE);
            due("empty", x.end(1), NONE);
            due("an empty tape is an empty text", x.text(sort, 0), 0);
        }
        promise(4, "in the place of one: nothing of it is left");
        SortedOffice z = Check.with("houses 6;mood 5 1;mood 0 2;" + TEN + EIGHT + "minds 9 0 1;minds 0 1 3;", WEEK,
            "slip 9 5;".repeat(40));
        due("a full log", Check.tell(z, LOG, NONE, "mood 5 99;".repeat(8)), 0);
        for (int sort = 0; sort < 3; sort++) {
            due("an empty text", Check.tell(z, sort, 0, ""), 0);
        }
        SortedOffice empty = Check.with("");
        for (int what = 0; what < 120; what++) {
            due("office " + what, z.office(0, what), empty.office(0, what));
        }
        due("no deeds", z.deed(0, NONE, 0), 0);
        due("no deed", z.deed(0, 0, 0), -2);
        due("no facts", z.fact(0, NONE, 0), 0);
        due("no fact", z.fact(0, 0, 0), -2);
        due("letters anew", Check.tell(z, OFFICE, 0, TEN), 0);
        due("which mind nobody", z.office(0, 50), NONE);
        due("by no shift", z.office(0, 69), NONE);

        promise(4, "NONE: a FAULT.");
        SortedOffice x = Check.with("houses 5;letter 4 joy 1;law joy joy 3;mood 1 2;");
        String[] faulty = {"houses 1;?", "houses 1;mood 0 51;", TEN + "letter 0 joy 1;", "houses 1;mood 1 1;"};
        for (int f = 1; f <= 4; f++) {
            due("in its place", Check.tell(x, OFFICE, 0, faulty[f - 1]), NONE);
            due("fault", x.fault(0), f);
            due("a further one", Check.tell(x, OFFICE, NONE, faulty[f - 1]), NONE);
            due("fault", x.fault(0), f);
            due("no further one", x.count(OFFICE), 1);
            due("the houses stand", x.office(0, 0), 5);
            due("the letters stand", x.office(0, 1), 1);
            due("the laws stand", x.office(0, 100), 3);
            due("the moods stand", x.office(0, 11), 2);
        }
    }

    private static void refused(SortedOffice x, String why, int sort, int at) {
        int[] counts = {x.count(0), x.count(1), x.count(2)};
        // a FAULT ahead, so that FAULT 0 is seen to be of this call
        due("a fault ahead", Check.tell(x, LOG, counts[LOG] == 2 ? 0 : NONE, "?"), NONE);
        due(why, Check.tell(x, sort, at, "?"), -2);
        due(why + ", fault", x.fault(0), 0);
        due(why + ", place", x.fault(1), NONE);
        due(why + ", the tape is empty", x.end(1), NONE);
        due(why + ", without a tape", x.text(sort, at), -2);
        for (int s = 0; s < 3; s++) {
            due(why + ", count " + s, x.count(s), counts[s]);
        }
    }

    private static void refused() {
        for (int sort = 0; sort < 3; sort++) {
            promise(4, "-2: there is none such");
            SortedOffice x = new SortedOffice();
            refused(x, "of none", sort, 0);
            due("one", Check.tell(x, sort, NONE, ""), 0);
            refused(x, "of one", sort, 1);
            due("two", Check.tell(x, sort, NONE, ""), 1);
            refused(x, "of two", sort, 2);
            refused(x, "below NONE", sort, -2);
            for (int at : FAR) {
                refused(x, "far off", sort, at);
            }
            promise(4, "-2: there are as many as may be");
            refused(x, "a third one", sort, NONE);
        }
        promise(4, "-2: no such sort");
        SortedOffice x = Check.with("houses 5;");
        for (int sort : new int[] {-2, -1, 3, 4}) {
            refused(x, "sort " + sort, sort, NONE);
            refused(x, "sort " + sort, sort, 0);
        }
        for (int sort : FAR) {
            refused(x, "sort " + sort, sort, NONE);
            refused(x, "sort " + sort, sort, 0);
        }
        due("the office stands", x.office(0, 0), 5);
    }

    private static void latestFault() {
        promise(5, "Of the latest text(), what 0: the FAULT, 0 without, 1: its place, NONE without.");
        SortedOffice x = new SortedOffice();
        due("ahead of any text", x.fault(0), 0);
        due("ahead of any text", x.fault(1), NONE);
        due("a fault", Check.tell(x, WEEK, NONE, "night;give 10;"), NONE);
        due("fault", x.fault(0), 2);
        due("place", x.fault(1), 11);
        due("feed and end are no text", feedBlanks(x), 20);
        due("fault", x.fault(0), 2);
        due("another sort, another fault", Check.tell(x, LOG, NONE, "?"), NONE);
        due("fault", x.fault(0), 1);
        due("place 0 is a place", x.fault(1), 0);
        due("no fault", Check.tell(x, LOG, NONE, ""), 0);
        due("fault", x.fault(0), 0);
        due("place", x.fault(1), NONE);

        promise(5, "NONE for another what.");
        due("a fault", Check.tell(x, WEEK, NONE, "?"), NONE);
        due("below", x.fault(-1), NONE);
        due("above", x.fault(2), NONE);
        for (int what : FAR) {
            due("far off", x.fault(what), NONE);
        }
    }

    // ---- what NUMBERS can be

    /** A line with its NUMBER at '#': least and most are fine, those next to them and 99 are FAULT 2. */
    private static void bounds(int sort, String ahead, String line, int least, int most) {
        int place = ahead.length() + line.indexOf('#');
        for (int n = 0; n <= 99; n++) {
            String text = ahead + line.replace("#", Integer.toString(n));
            if (n >= least && n <= most) {
                Check.fine(sort, text);
            } else {
                Check.faulty(sort, text, 2, place);
            }
        }
    }

    private static void housesAndMoods() {
        edge("HOUSES, 1 .. 6 (3 at first), from 0 on");
        bounds(OFFICE, "", "houses #;", 1, 6);
        due("at first", Check.with("").office(0, 0), 3);
        for (int n = 1; n <= 6; n++) {
            SortedOffice x = Check.with("houses " + n + ";");
            due("houses", x.office(0, 0), n);
            due("the first", x.office(0, 10), 10);
            due("the last", x.office(0, 9 + n), 10);
            due("behind the last", x.office(0, 10 + n), -2);
        }
        edge("a MOOD, 0 .. 50 (10 at first)");
        bounds(OFFICE, "", "mood 0 #;", 0, 50);
        bounds(OFFICE, "houses 6;", "mood # 9;", 0, 5);
        SortedOffice x = Check.with("houses 6;mood 1 0;mood 4 50;");
        int[] moods = {10, 0, 10, 10, 50, 10};
        for (int h = 0; h < 6; h++) {
            due("mood " + h, x.office(0, 10 + h), moods[h]);
        }
        due("all alike at first", Check.with("houses 6;").office(0, 15), 10);
    }

    private static void letters() {
        edge("LETTERS, at most 10, from 0 on: a HOUSE, a KIND, FORCE, 1 .. 9");
        bounds(OFFICE, "houses 6;", "letter # joy 1;", 0, 5);
        bounds(OFFICE, "", "letter 0 joy #;", 1, 9);
        for (int n = 0; n <= 10; n++) {
            SortedOffice x = Check.with("letter 2 joy 9;".repeat(n));
            due("letters", x.office(0, 1), n);
            for (int l = 0; l < 10; l++) {
                due("home of " + l, x.office(0, 20 + l), l < n ? 2 : -2);
                due("kind of " + l, x.office(0, 30 + l), l < n ? 0 : -2);
                due("force of " + l, x.office(0, 40 + l), l < n ? 9 : -2);
            }
        }
        edge("KINDS: 0 JOY, 1 BLOW, 2 MONEY, 3 NOTHING.");
        SortedOffice x = Check.with("letter 0 joy 1;letter 0 blow 1;letter 0 money 1;letter 0 nothing 1;");
        for (int kind = 0; kind < 4; kind++) {
            due("kind", x.office(0, 30 + kind), kind);
        }
    }

    private static void laws() {
        edge("LAWS, at most 8, from 0 on: a KIND ahead, a KIND, TIMES, 0 .. 9");
        bounds(OFFICE, "", "law joy nothing #;", 0, 9);
        String[] kinds = {"joy", "blow", "money", "nothing"};
        for (int a = 0; a < 4; a++) {
            for (int b = 0; b < 4; b++) {
                SortedOffice x = Check.with("law " + kinds[a] + " " + kinds[b] + " 0;");
                due("one law", x.office(0, 2), 1);
                for (int what = 100; what < 116; what++) {
                    due("law " + what, x.office(0, what), what == 100 + 4 * a + b ? 0 : NONE);
                }
            }
        }
        due("eight of them", Check.with(EIGHT).office(0, 2), 8);
    }

    private static void minds() {
        edge("a LETTER may mind another one, by a SHIFT, 0 .. 3");
        bounds(OFFICE, "letter 0 joy 1;letter 0 joy 1;", "minds 0 1 #;", 0, 3);
        for (int n = 0; n < 100; n++) {
            int second = TEN.length() + (n < 10 ? 8 : 9);
            String line = "minds " + n + " 3 0;";
            Check.faulty(OFFICE, TEN + line, n == 3 || n > 9 ? 2 : 0,
                n == 3 ? second : n > 9 ? TEN.length() + 6 : NONE);
        }
        SortedOffice x = Check.with("letter 0 joy 1;letter 0 joy 1;minds 1 0 0;");
        due("which one it minds", x.office(0, 51), 0);
        due("by which shift", x.office(0, 61), 0);
        due("which minds nobody", x.office(0, 50), NONE);
        due("by no shift", x.office(0, 60), NONE);

        edge("of minds the second LETTER, if it is the first");
        Check.faulty(OFFICE, TEN + "minds 9 9 0;", 2, TEN.length() + 8);
        Check.faulty(OFFICE, TEN + "minds 0 00 0;", 2, TEN.length() + 8);
        Check.faulty(OFFICE, TEN + "minds 09 9 4;", 2, TEN.length() + 9);
        for (int n = 0; n < 100; n++) {
            boolean can = n != 5 && n < 10;
            Check.faulty(OFFICE, TEN + "minds 5 " + n + " 3;", can ? 0 : 2, can ? NONE : TEN.length() + 8);
        }
        Check.faulty(OFFICE, "minds 10 10 0;", 2, 6);
    }

    private static void deeds() {
        edge("A WEEK has DEEDS, at most 40, from 0 on.");
        for (int n : new int[] {0, 1, 39, 40}) {
            SortedOffice x = Check.with("", WEEK, "burn 9;".repeat(n));
            due("deeds", x.deed(0, NONE, 0), n);
            due("the last", x.deed(0, n - 1, 1), n == 0 ? -2 : 9);
            due("behind the last", x.deed(0, n, 0), -2);
        }
        edge("(give: a LETTER; slip: a LETTER, a HOUSE; burn: a LETTER)");
        bounds(WEEK, "", "give #;", 0, 9);
        bounds(WEEK, "", "slip # 5;", 0, 9);
        bounds(WEEK, "", "slip 9 #;", 0, 5);
        bounds(WEEK, "", "burn #;", 0, 9);
    }

    private static void facts() {
        edge("A LOG has FACTS, at most 8, from 0 on");
        for (int n : new int[] {0, 1, 7, 8}) {
            SortedOffice x = Check.with("", LOG, "mood 5 99;".repeat(n));
            due("facts", x.fact(0, NONE, 0), n);
            due("the last", x.fact(0, n - 1, 1), n == 0 ? -2 : 99);
            due("behind the last", x.fact(0, n, 1), -2);
        }
        edge("a HOUSE, 0 .. 5, had a MOOD, 0 .. 99");
        bounds(LOG, "", "mood # 0;", 0, 5);
        bounds(LOG, "", "mood 0 #;", 0, 99);
    }

    // ---- tokens and lines

    private static void tokens() {
        edge("TOKENS, as long as they go, blanks (10, 32) between");
        for (int sign = 0; sign < 256; sign++) {
            String text = "houses" + (char) sign + " 3;";
            boolean letter = sign >= 'a' && sign <= 'z';
            boolean digit = sign >= '0' && sign <= '9';
            if (sign == 10 || sign == 32) {
                Check.fine(OFFICE, text);
            } else {
                Check.faulty(OFFICE, text, 1, letter ? 0 : digit ? 8 : 6);
            }
        }
        for (int sign = 0; sign < 256; sign++) {
            String text = "houses 3" + (char) sign + ";";
            boolean digit = sign >= '0' && sign <= '9';
            if (sign == 10 || sign == 32) {
                Check.fine(OFFICE, text);
            } else {
                Check.faulty(OFFICE, text, digit ? 2 : 1, digit ? 7 : sign == ';' ? 9 : 8);
            }
        }
        Check.fine(OFFICE, "\n \nhouses\n\n6 \n; \n");
        Check.fine(OFFICE, "houses6;mood5 50;letter5nothing9;law joy joy9;");
        Check.faulty(OFFICE, "mood 550;", 1, 5);
        Check.faulty(OFFICE, "law joyjoy 1;", 1, 4);
        Check.faulty(OFFICE, "ho uses 3;", 1, 0);
        Check.faulty(OFFICE, "houses 1 2;", 1, 9);

        edge("words, rows of letters a .. z");
        Check.faulty(OFFICE, "ahouses 3;", 1, 0);
        Check.faulty(OFFICE, "housesz 3;", 1, 0);
        Check.faulty(OFFICE, "house 3;", 1, 0);
        Check.faulty(OFFICE, "HOUSES 3;", 1, 0);
        Check.faulty(OFFICE, "housEs 3;", 1, 0);

        edge("NUMBERS, 1 or 2 digits");
        due("one digit", Check.with("mood 0 9;").office(0, 10), 9);
        due("two digits", Check.with("mood 0 09;").office(0, 10), 9);
        due("two digits", Check.with("mood 0 50;").office(0, 10), 50);
        due("two noughts", Check.with("mood 00 00;").office(0, 10), 0);
        due("99 of a log", Check.with("", LOG, "mood 05 99;").fact(0, 0, 1), 99);

        edge("(a longer row of digits is no token)");
        Check.faulty(OFFICE, "mood 0 009;", 1, 7);
        Check.faulty(OFFICE, "mood 000 9;", 1, 5);
        Check.faulty(OFFICE, "mood 0 " + "0".repeat(300) + ";", 1, 7);
        Check.faulty(LOG, "mood 0 100;", 1, 7);
        Check.faulty(LOG, "mood 0 100", 1, 7);
        Check.faulty(WEEK, "give 0 100;", 1, 7);
        Check.faulty(WEEK, "100", 1, 0);

        edge("; one byte");
        Check.fine(OFFICE, "houses 3;houses 3;");
        Check.faulty(OFFICE, "houses 3;;", 1, 9);
        Check.faulty(OFFICE, ";", 1, 0);
    }

    /** Whether a token is of the class that another one is of: a KIND for a KIND, a NUMBER for a NUMBER. */
    private static boolean alike(String one, String other) {
        return classOf(one).equals(classOf(other));
    }

    private static String classOf(String token) {
        if (token.matches("[0-9]{1,2}")) {
            return "number";
        }
        return token.matches("joy|blow|money|nothing") ? "kind" : token;
    }

    private static boolean begins(int sort, String token) {
        for (String line : LINES[sort]) {
            if (line.startsWith(token + " ")) {
                return true;
            }
        }
        return false;
    }

    private static void lines() {
        edge("An OFFICE's, a WEEK's, a LOG's text: {... ';'}");
        String letters = "letter 0 joy 1;letter 0 joy 1;";
        for (int sort = 0; sort < 3; sort++) {
            Check.fine(sort, "");
            String ahead = sort == OFFICE ? letters : "";
            for (String line : LINES[sort]) {
                Check.fine(sort, ahead + line);
                Check.fine(sort, ahead + line + line);
                tryLine(sort, ahead, line.split(" "));
            }
        }
        edge("words: each letter of each of them");
        for (int sort = 0; sort < 3; sort++) {
            for (String line : LINES[sort]) {
                String word = line.substring(0, line.indexOf(' '));
                for (String other : misspelt(word)) {
                    Check.faulty(sort, other + line.substring(word.length()), 1, 0);
                }
            }
        }
        for (String kind : new String[] {"joy", "blow", "money", "nothing"}) {
            for (String other : misspelt(kind)) {
                Check.faulty(OFFICE, "letter 0 " + other + " 1;", 1, 9);
                Check.faulty(OFFICE, "law joy " + other + " 1;", 1, 8);
            }
        }
        edge("KIND: 'joy' | 'blow' | 'money' | 'nothing'");
        for (String kind : new String[] {"joy", "blow", "money", "nothing"}) {
            Check.fine(OFFICE, "letter 0 " + kind + " 1;law " + kind + " " + kind + " 1;");
            Check.faulty(OFFICE, "letter 0 " + kind + "s 1;", 1, 9);
            Check.faulty(OFFICE, "letter 0 " + kind.substring(1) + " 1;", 1, 9);
            Check.faulty(OFFICE, "letter 0 " + kind.substring(0, kind.length() - 1) + " 1;", 1, 9);
        }
    }

    /** A word with one of its letters changed, left out or put in twice. */
    private static List<String> misspelt(String word) {
        List<String> all = new ArrayList<>();
        for (int i = 0; i < word.length(); i++) {
            String begin = word.substring(0, i);
            String end = word.substring(i + 1);
            all.add(begin + (word.charAt(i) == 'q' ? 'r' : 'q') + end);
            all.add(begin + end);
            all.add(begin + word.charAt(i) + word.charAt(i) + end);
        }
        return all;
    }

    /** Each token left out with all behind it, and each in the place of each other: FAULT 1 there. */
    private static void tryLine(int sort, String ahead, String[] line) {
        String told = ahead;
        for (int i = 0; i < line.length; i++) {
            if (i > 0) {
                Check.faulty(sort, told, 1, told.length());
            }
            for (String token : TOKENS) {
                boolean other = i == 0 ? !begins(sort, token) : !alike(token, line[i]);
                if (other) {
                    Check.faulty(sort, told + token + " ;", 1, told.length());
                }
            }
            told += line[i] + " ";
        }
    }

    private static void strikes() {
        edge("Later ones strike (a LAW of the same KINDS, what the same LETTER minds, too)");
        SortedOffice x = Check.with("houses 6;mood 5 1;mood 5 2;houses 1;houses 6;law joy joy 9;law blow joy 8;"
            + "law joy joy 0;letter 0 joy 1;letter 0 joy 1;letter 0 joy 1;minds 0 1 3;minds 0 2 0;minds 1 0 1;");
        int[][] dues = {{0, 6}, {15, 2}, {2, 2}, {100, 0}, {104, 8}, {50, 2}, {60, 0}, {51, 0}, {61, 1}};
        for (int[] d : dues) {
            due("office " + d[0], x.office(0, d[0]), d[1]);
        }
        edge("but LETTERS, LAWS of other KINDS, DEEDS, FACTS, which are further ones");
        due("letters alike", x.office(0, 1), 3);
        due("laws turned round are others", Check.with("law joy blow 1;law blow joy 1;").office(0, 2), 2);
        due("deeds alike", Check.with("", WEEK, "give 0;give 0;").deed(0, NONE, 0), 2);
        SortedOffice y = Check.with("", LOG, "mood 0 1;mood 0 2;mood 0 1;");
        due("facts of one house", y.fact(0, NONE, 0), 3);
        due("the first stands", y.fact(0, 0, 1), 1);
        due("the second, too", y.fact(0, 1, 1), 2);
    }

    // ---- FAULTS

    private static void faultOne() {
        edge("1 the first byte or token with which no text goes on");
        Check.faulty(OFFICE, "houses 0;mood 9 99;letter 9 joy 0;?", 1, 34);
        Check.faulty(OFFICE, TEN + TEN + "x;", 1, 300);
        Check.faulty(OFFICE, "mood 5 1;minds 9 8 1;houses", 1, 27);
        Check.faulty(WEEK, "night;".repeat(41) + "nights;", 1, 246);
        Check.faulty(LOG, "mood 9 9;".repeat(9) + "mood 9;", 1, 87);
        Check.faulty(OFFICE, "x ? 000", 1, 0);
        Check.faulty(OFFICE, "houses ? x", 1, 7);

        edge("with places (a token's first byte; the end's)");
        Check.faulty(OFFICE, "  houses  nothing;", 1, 10);
        Check.faulty(OFFICE, "\n\nhouses 17;", 2, 9);
        Check.faulty(OFFICE, "houses 3", 1, 8);
        Check.faulty(OFFICE, "houses 3 \n ", 1, 11);
        Check.faulty(OFFICE, "mood 5 1; \n", 4, 11);
    }

    private static void firstByPlace() {
        edge("If there is none, the first by place, of one place the least");
        Check.faulty(OFFICE, "mood 6 51;", 2, 5);
        Check.faulty(OFFICE, "mood 5 51;houses 0;", 2, 7);
        Check.faulty(OFFICE, "houses 7;" + TEN + "letter 0 joy 1;", 2, 7);
        Check.faulty(OFFICE, TEN + "letter 0 joy 1;houses 7;", 3, 150);
        Check.faulty(OFFICE, TEN + "letter 6 joy 0;", 3, 150);
        Check.faulty(OFFICE, EIGHT + TEN + "letter 0 joy 1;law money joy 1;", 3, EIGHT.length() + 150);
        Check.faulty(OFFICE, EIGHT + TEN + "law money joy 1;letter 0 joy 1;", 3, EIGHT.length() + 150);
        Check.faulty(OFFICE, "minds 4 4 4;", 2, 8);

        edge("a line with such a NUMBER tells its LETTER, LAW, DEED, FACT all the same");
        Check.faulty(OFFICE, "letter 0 joy 10;" + TEN, 2, 13);
        Check.faulty(OFFICE, "law nothing joy 10;" + EIGHT, 2, 16);
        Check.faulty(WEEK, "give 10;" + "night;".repeat(40), 2, 5);
        Check.faulty(LOG, "mood 6 0;" + "mood 0 0;".repeat(8), 2, 5);
    }

    private static void tooMany() {
        edge("3 an 11th LETTER, at its first token");
        Check.fine(OFFICE, TEN);
        Check.faulty(OFFICE, TEN + "letter 0 joy 1;", 3, 150);
        Check.faulty(OFFICE, TEN + " \nhouses 3; letter 0 joy 1;letter 0 joy 1;", 3, 162);

        edge("3 a 9th LAW (of KINDS of which none was told), at its first token");
        Check.fine(OFFICE, EIGHT);
        Check.fine(OFFICE, EIGHT + EIGHT);
        Check.faulty(OFFICE, EIGHT + "law nothing nothing 0;", 3, EIGHT.length());
        Check.faulty(OFFICE, EIGHT + "law blow nothing 0; law money joy 1;", 3, EIGHT.length() + 20);

        edge("3 a 41st DEED, at its first token");
        String[] deeds = {"give 9;", "slip 9 5;", "burn 9;", "night;"};
        for (String deed : deeds) {
            Check.fine(WEEK, deed.repeat(40));
            Check.faulty(WEEK, deed.repeat(41), 3, 40 * deed.length());
            Check.faulty(WEEK, "night;".repeat(40) + "\n" + deed, 3, 241);
        }
        edge("3 a 9th FACT, at its first token");
        Check.fine(LOG, "mood 5 9;".repeat(8));
        Check.faulty(LOG, "mood 5 9;".repeat(9), 3, 72);
        Check.faulty(LOG, "mood 5 9;".repeat(8) + "  mood 5 99;", 3, 74);
    }

    private static void notThere() {
        edge("If there is none of these, at the end's place, of an OFFICE: 4 a HOUSE that was told of and is not there.");
        for (int houses = 1; houses <= 6; houses++) {
            for (int h = 0; h < 6; h++) {
                int fault = h < houses ? 0 : 4;
                String size = "houses " + houses + ";";
                Check.faulty(OFFICE, size + "mood " + h + " 1;", fault, fault == 0 ? NONE : 18);
                Check.faulty(OFFICE, "mood " + h + " 1;" + size, fault, fault == 0 ? NONE : 18);
                Check.faulty(OFFICE, size + "letter " + h + " joy 1;", fault, fault == 0 ? NONE : 24);
                Check.faulty(OFFICE, "letter " + h + " joy 1;" + size, fault, fault == 0 ? NONE : 24);
            }
        }
        Check.faulty(OFFICE, "houses 6;mood 5 1;houses 5;", 4, 27);
        Check.faulty(OFFICE, "mood 3 1;houses 0;", 2, 16);

        edge("4 a LETTER that was told of and is not there.");
        for (int n = 0; n <= 10; n++) {
            String letters = "letter 0 joy 1;".repeat(n);
            for (int l = 1; l < 10; l++) {
                int fault = l < n ? 0 : 4;
                int place = fault == 0 ? NONE : letters.length() + 12;
                Check.faulty(OFFICE, letters + "minds " + l + " 0 1;", fault, place);
                Check.faulty(OFFICE, "minds 0 " + l + " 1;" + letters, fault, place);
            }
        }
        edge("of an OFFICE");
        Check.fine(WEEK, "give 9;burn 9;slip 9 5;");
        Check.fine(LOG, "mood 5 99;");
    }

    private static void offices() {
        edge("OFFICES, at most 2 (sort 0), WEEKS, at most 2 (1), LOGS, at most 2 (2), from 0 on.");
        SortedOffice x = new SortedOffice();
        String[][] texts = {{"houses 1;", "houses 2;"}, {"night;", "night;night;"}, {"mood 0 0;", "mood 0 0;mood 0 0;"}};
        for (int at = 0; at < 2; at++) {
            for (int sort = 0; sort < 3; sort++) {
                due("told", Check.tell(x, sort, NONE, texts[sort][at]), at);
            }
        }
        for (int sort = 0; sort < 3; sort++) {
            due("a third", Check.tell(x, sort, NONE, ""), -2);
            due("two", x.count(sort), 2);
        }
        for (int at = 0; at < 2; at++) {
            due("office " + at, x.office(at, 0), at + 1);
            due("week " + at, x.deed(at, NONE, 0), at + 1);
            due("log " + at, x.fact(at, NONE, 0), at + 1);
        }
    }
}

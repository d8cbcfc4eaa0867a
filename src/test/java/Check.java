/** What the tests share: telling texts, comparing answers, and the exit code. */
final class Check {
    static final int OFFICE = 0;
    static final int WEEK = 1;
    static final int LOG = 2;

    private static int wrong = 0;
    private static int looked = 0;
    private static String sentence = "";
    private static int sentences = 0;
    private static int lookedBefore = 0;

    private Check() {
    }

    static void due(String call, long got, long want) {
        looked++;
        if (got != want) {
            wrong++;
            if (wrong <= 200) {
                System.out.println(sentence + call + " answered " + got + ", due is " + want);
            }
        }
    }

    static void due(String call, boolean got, boolean want) {
        due(call, got ? 1 : 0, want ? 1 : 0);
    }

    /** The next answers are of this sentence of the document: where it stands, and its words. */
    static void sentence(String where, String words) {
        endSentence();
        sentences++;
        sentence = where + ", \"" + words + "\": ";
    }

    /** A sentence of which nothing was asked has no test. */
    private static void endSentence() {
        if (sentences > 0 && looked == lookedBefore) {
            due("answers", 0, 1);
        }
        lookedBefore = looked;
    }

    /** Puts a text on the tape in the place of what is there: the last twenty bytes are filled up, then cut. */
    static void put(SortedOffice x, String text) {
        int before = x.end(0) == 0 ? 0 : -1;
        int[] five = new int[5];
        for (int at = 0; at < text.length(); at += 20) {
            for (int i = 0; i < 20; i++) {
                int sign = at + i < text.length() ? text.charAt(at + i) & 255 : ' ';
                five[i / 4] = five[i / 4] << 8 | sign;
            }
            before = x.feed(five[0], five[1], five[2], five[3], five[4]);
        }
        if (before < text.length() || x.end(text.length()) != text.length()) {
            due("putting " + text, before, text.length());
        }
    }

    static int tell(SortedOffice x, int sort, int at, String text) {
        put(x, text);
        return x.text(sort, at);
    }

    static SortedOffice with(String office) {
        SortedOffice x = new SortedOffice();
        due("telling " + office, tell(x, OFFICE, SortedOffice.NONE, office), 0);
        return x;
    }

    static SortedOffice with(String office, int sort, String other) {
        SortedOffice x = with(office);
        due("telling " + other, tell(x, sort, SortedOffice.NONE, other), 0);
        return x;
    }

    /** A text alone: its FAULT and place (0 and NONE without). */
    static void faulty(int sort, String text, int fault, int place) {
        SortedOffice x = new SortedOffice();
        due("text " + text, tell(x, sort, SortedOffice.NONE, text), fault == 0 ? 0 : SortedOffice.NONE);
        due("fault of " + text, x.fault(0), fault);
        due("place in " + text, x.fault(1), place);
        due("count behind " + text, x.count(sort), fault == 0 ? 1 : 0);
    }

    static void fine(int sort, String text) {
        faulty(sort, text, 0, SortedOffice.NONE);
    }

    static void finish() {
        endSentence();
        if (sentences > 0) {
            System.out.print(sentences + " sentences, ");
        }
        System.out.println(looked + " answers, " + wrong + " of them wrong");
        if (wrong != 0 || looked == 0) {
            System.exit(1);
        }
    }
}

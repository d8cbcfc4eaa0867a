import java.util.Arrays;

/**
 * Offices, weeks and logs told as texts on a tape, and what is to be known of them. The document
 * that says what each call answers is DOC.md; words in capitals here are its terms.
 */
public final class SortedOffice {
    public static final int NONE = -1;

    private static final int NO_SUCH = -2;
    private static final int NOT_SO = -1000;
    private static final long NO_FRACTION = -1000000000000L;

    private static final int OFFICES = 0;
    private static final int WEEKS = 1;
    private static final int LOGS = 2;
    private static final int SORTS = 3;
    private static final int MOST_OF_A_SORT = 2;
    private static final int IMAGES = 3;

    private static final int MOST_BYTES = 600;
    private static final int MOST_HOUSES = 6;
    private static final int MOST_LETTERS = 10;
    private static final int MOST_LAWS = 8;
    private static final int MOST_DEEDS = 40;
    private static final int MOST_FACTS = 8;
    private static final int MOST_MOOD = 99;

    private static final int KINDS = 4;
    private static final int JOY = 0;
    private static final int BLOW = 1;
    private static final int MONEY = 2;

    private static final int GIVE = 0;
    private static final int SLIP = 1;
    private static final int BURN = 2;
    private static final int NIGHT = 3;

    private final Told told = new Told();
    private final Told[] images = new Told[IMAGES];
    private final Reader reader = new Reader();
    private final Course course = new Course();
    private final Orders orders = new Orders();
    private final Racks racks = new Racks();
    private final Bags days = new Bags();
    private final Slips slips = new Slips();
    private final Chances chances = new Chances();

    public SortedOffice() {
    }

    public int feed(int a, int b, int c, int d, int e) {
        if (told.length + 20 > MOST_BYTES) {
            return NONE;
        }
        told.addBytes(a);
        told.addBytes(b);
        told.addBytes(c);
        told.addBytes(d);
        told.addBytes(e);
        return told.length;
    }

    public int end(int n) {
        if (n < 0 || n > told.length) {
            return NONE;
        }
        told.length = n;
        return n;
    }

    public int text(int sort, int at) {
        int length = told.length;
        told.length = 0;
        told.fault = 0;
        told.place = NONE;
        if (!told.mayTake(sort, at)) {
            return NO_SUCH;
        }
        reader.read(sort, told.tape, length);
        told.fault = reader.fault;
        told.place = reader.place;
        if (told.fault != 0) {
            return NONE;
        }
        return told.take(sort, at, reader);
    }

    public int fault(int what) {
        if (what == 0) {
            return told.fault;
        }
        return what == 1 ? told.place : NONE;
    }

    public int office(int office, int what) {
        Office o = told.officeAt(office);
        return o == null ? NO_SUCH : o.answer(what);
    }

    public int doing(int office, int letter, int ahead) {
        Office o = told.officeAt(office);
        if (o == null || !o.hasLetter(letter) || ahead < NONE || ahead >= KINDS) {
            return NOT_SO;
        }
        return o.does(letter, ahead);
    }

    public int deed(int week, int k, int what) {
        Week w = told.weekAt(week);
        return w == null ? NO_SUCH : w.answer(k, what);
    }

    public int till(int office, int week) {
        Office o = told.officeAt(office);
        Week w = told.weekAt(week);
        if (o == null || w == null) {
            return NONE;
        }
        return course.run(o, w, w.deeds);
    }

    public int state(int office, int week, int n, int what) {
        Office o = told.officeAt(office);
        Week w = told.weekAt(week);
        if (o == null || w == null || n < 0 || n > w.deeds) {
            return NOT_SO;
        }
        return course.run(o, w, n) < n ? NOT_SO : course.answer(what);
    }

    public int order(int office, int house, boolean worst, int k) {
        Office o = told.officeAt(office);
        if (o == null || !o.hasHouse(house) || k < NONE || k >= MOST_LETTERS) {
            return NOT_SO;
        }
        int mood = orders.moodOf(o, house, NONE, worst);
        return k == NONE ? mood : orders.letterAt(k);
    }

    public long mean(int office, int house, boolean under) {
        Office o = told.officeAt(office);
        if (o == null || !o.hasHouse(house)) {
            return NO_FRACTION;
        }
        chances.findMean(o, house);
        return chances.answer(under);
    }

    public long spared(int office, int house, int p, int m, boolean under) {
        Office o = told.officeAt(office);
        if (o == null || !o.hasHouse(house)) {
            return NONE;
        }
        if (p < 0 || p > 10 || m < 0 || m > MOST_MOOD) {
            return NONE;
        }
        chances.findSpared(o, house, p, m);
        return chances.answer(under);
    }

    public int rack(int office, int letter, int n) {
        Office o = told.officeAt(office);
        if (o == null || !o.hasLetter(letter) || n < 0 || n > 999) {
            return NONE;
        }
        return racks.rackOf(o, letter, n);
    }

    public int settled(int office, int what) {
        Office o = told.officeAt(office);
        if (o == null || what < 0 || what > 2) {
            return NO_SUCH;
        }
        if (what == 0) {
            return racks.settledBehind(o);
        }
        racks.findRing(o);
        return what == 1 ? racks.ring : racks.blind;
    }

    public int bags(int office, int force, int n, int k) {
        Office o = told.officeAt(office);
        if (o == null || force < 1 || force > 99 || n < 1 || n > 10) {
            return NONE;
        }
        if (k != NONE && !o.hasLetter(k)) {
            return NONE;
        }
        int fewest = days.fewest(o, force, n);
        return k == NONE || fewest == NONE ? fewest : days.dayOf[k];
    }

    public int sorters(int office, boolean first) {
        Office o = told.officeAt(office);
        return o == null ? NOT_SO : orders.lead(o, first);
    }

    public int fact(int log, int k, int what) {
        Log g = told.logAt(log);
        return g == null ? NO_SUCH : g.answer(k, what);
    }

    public int fits(int office, int log, int what) {
        Office o = told.officeAt(office);
        Log g = told.logAt(log);
        if (o == null || g == null || !g.allIn(o)) {
            return NO_SUCH;
        }
        slips.find(o, g);
        return slips.answer(what);
    }

    public int drawn(int office, int seed, int n, int what) {
        Office o = told.officeAt(office);
        if (o == null || n < 0 || n > 60) {
            return NOT_SO;
        }
        course.draw(o, seed, n);
        return course.answer(what);
    }

    public int dear(int office, int letter) {
        Office o = told.officeAt(office);
        if (o == null || !o.hasLetter(letter)) {
            return NOT_SO;
        }
        int home = o.homes[letter];
        return orders.moodOf(o, home, NONE, false) - orders.moodOf(o, home, letter, false);
    }

    public int spoilt(int office, int house, boolean lowest) {
        Office o = told.officeAt(office);
        if (o == null || !o.hasHouse(house)) {
            return NOT_SO;
        }
        int own = o.lettersOf(house);
        if (lowest) {
            return o.lowestUntil(house, own);
        }
        return orders.moodOf(o, house, NONE, false) - o.moodBehind(house, own);
    }

    public int calm(int office, int house, int mood, boolean which) {
        Office o = told.officeAt(office);
        if (o == null || !o.hasHouse(house) || mood < 0 || mood > MOST_MOOD) {
            return NONE;
        }
        int burnt = o.calmedBy(house, mood);
        return which || burnt == NONE ? burnt : Integer.bitCount(burnt);
    }

    public long hoped(int office, int n, boolean under) {
        Office o = told.officeAt(office);
        if (o == null || n < 0 || n > o.letters) {
            return NO_FRACTION;
        }
        chances.findHoped(o, n);
        return chances.answer(under);
    }

    public int strongest(int office, boolean much) {
        Office o = told.officeAt(office);
        if (o == null || o.laws == 0) {
            return NONE;
        }
        orders.findStrongest(o);
        return much ? orders.much : orders.found;
    }

    public int swapped(int office, boolean much) {
        Office o = told.officeAt(office);
        if (o == null) {
            return NOT_SO;
        }
        orders.findSwapped(o);
        return much ? orders.much : orders.found;
    }

    public long strike(int office, int k, boolean under) {
        Office o = told.officeAt(office);
        if (o == null || k < 0 || k > 3 || k > o.letters) {
            return NONE;
        }
        chances.findStrike(o, k);
        return chances.answer(under);
    }

    public int ruled(int office, int what) {
        Office o = told.officeAt(office);
        if (o == null) {
            return NONE;
        }
        switch (what) {
            case 0:
                return o.ruledCouples();
            case 1:
                return racks.longestRow(o);
            case 2:
                return racks.loosened(o);
            case 3:
                return orders.touched(o);
            default:
                return o.hasHouse(what - 10) ? orders.ranked(o, what - 10) : NONE;
        }
    }

    public int after(int office, int week, int what) {
        Office o = told.officeAt(office);
        Week w = told.weekAt(week);
        if (o == null || w == null) {
            return NOT_SO;
        }
        course.run(o, w, w.deeds);
        switch (what) {
            case 0:
                return course.grieved;
            case 1:
                return course.low;
            case 2:
                return course.failed;
            case 3:
                return course.idle;
            default:
                return NOT_SO;
        }
    }

    public int then(int office, int log, int k, int house) {
        Office o = told.officeAt(office);
        Log g = told.logAt(log);
        if (o == null || g == null || !o.hasHouse(house)) {
            return NOT_SO;
        }
        slips.find(o, g);
        return k < 0 || k >= slips.found ? NOT_SO : slips.moodOf(k, house);
    }

    public int count(int sort) {
        return sort < 0 || sort >= SORTS ? NO_SUCH : told.counts[sort];
    }

    public boolean image(int k) {
        if (k < 0 || k >= IMAGES) {
            return false;
        }
        if (images[k] == null) {
            images[k] = new Told();
        }
        images[k].copyFrom(told);
        return true;
    }

    public boolean again(int k) {
        if (k < 0 || k >= IMAGES || images[k] == null) {
            return false;
        }
        told.copyFrom(images[k]);
        return true;
    }

    /** An OFFICE as it was told. */
    private static final class Office {
        int houses;
        int letters;
        int laws;
        final int[] moods = new int[MOST_HOUSES];
        final int[] homes = new int[MOST_LETTERS];
        final int[] kinds = new int[MOST_LETTERS];
        final int[] forces = new int[MOST_LETTERS];
        /** What each LETTER DOES, LAWS aside. */
        final int[] plains = new int[MOST_LETTERS];
        final int[] minded = new int[MOST_LETTERS];
        final int[] shifts = new int[MOST_LETTERS];
        final int[] times = new int[KINDS * KINDS];

        void clear() {
            houses = 3;
            letters = 0;
            laws = 0;
            Arrays.fill(moods, 10);
            Arrays.fill(minded, NONE);
            Arrays.fill(shifts, NONE);
            Arrays.fill(times, NONE);
        }

        void copyFrom(Office other) {
            houses = other.houses;
            letters = other.letters;
            laws = other.laws;
            System.arraycopy(other.moods, 0, moods, 0, MOST_HOUSES);
            System.arraycopy(other.homes, 0, homes, 0, MOST_LETTERS);
            System.arraycopy(other.kinds, 0, kinds, 0, MOST_LETTERS);
            System.arraycopy(other.forces, 0, forces, 0, MOST_LETTERS);
            System.arraycopy(other.plains, 0, plains, 0, MOST_LETTERS);
            System.arraycopy(other.minded, 0, minded, 0, MOST_LETTERS);
            System.arraycopy(other.shifts, 0, shifts, 0, MOST_LETTERS);
            System.arraycopy(other.times, 0, times, 0, KINDS * KINDS);
        }

        boolean hasHouse(int house) {
            return house >= 0 && house < houses;
        }

        boolean hasLetter(int letter) {
            return letter >= 0 && letter < letters;
        }

        int answer(int what) {
            if (what >= 100) {
                return what < 100 + KINDS * KINDS ? times[what - 100] : NO_SUCH;
            }
            if (what < 0) {
                return NO_SUCH;
            }
            if (what < 10) {
                return sizeOf(what);
            }
            int at = what % 10;
            if (what < 20) {
                return hasHouse(at) ? moods[at] : NO_SUCH;
            }
            return hasLetter(at) ? ofLetter(what / 10, at) : NO_SUCH;
        }

        private int sizeOf(int what) {
            switch (what) {
                case 0:
                    return houses;
                case 1:
                    return letters;
                case 2:
                    return laws;
                default:
                    return NO_SUCH;
            }
        }

        private int ofLetter(int what, int letter) {
            switch (what) {
                case 2:
                    return homes[letter];
                case 3:
                    return kinds[letter];
                case 4:
                    return forces[letter];
                case 5:
                    return minded[letter];
                case 6:
                    return shifts[letter];
                default:
                    return NO_SUCH;
            }
        }

        void addLetter(int house, int kind, int force) {
            if (letters < MOST_LETTERS) {
                homes[letters] = house;
                kinds[letters] = kind;
                forces[letters] = force;
                plains[letters] = plainOf(kind, force);
                letters++;
            }
        }

        private static int plainOf(int kind, int force) {
            switch (kind) {
                case JOY:
                    return force;
                case BLOW:
                    return -force;
                case MONEY:
                    return force / 2;
                default:
                    return 0;
            }
        }

        int does(int letter, int ahead) {
            int law = ahead == NONE ? NONE : times[KINDS * ahead + kinds[letter]];
            return law == NONE ? plains[letter] : law * plains[letter];
        }

        /** The LETTERS (bits) of a HOUSE. */
        int lettersOf(int house) {
            int bits = 0;
            for (int l = 0; l < letters; l++) {
                if (homes[l] == house) {
                    bits |= 1 << l;
                }
            }
            return bits;
        }

        /** The MOOD of a HOUSE when these of its LETTERS (bits) have come by numbers. */
        int moodBehind(int house, int coming) {
            int mood = moods[house];
            int last = NONE;
            for (int l = 0; l < letters; l++) {
                if ((coming >> l & 1) == 1) {
                    mood += does(l, last);
                    last = kinds[l];
                }
            }
            return mood;
        }

        /** The least that MOOD is on the way there, at first, too. */
        int lowestUntil(int house, int coming) {
            int mood = moods[house];
            int lowest = mood;
            int last = NONE;
            for (int l = 0; l < letters; l++) {
                if ((coming >> l & 1) == 1) {
                    mood += does(l, last);
                    last = kinds[l];
                    lowest = Math.min(lowest, mood);
                }
            }
            return lowest;
        }

        /** CALM: the LETTERS (bits) to be burnt, NONE if none will do. */
        int calmedBy(int house, int mood) {
            int own = lettersOf(house);
            int calmed = NONE;
            for (int gone = 0; gone < 1 << letters; gone++) {
                boolean fewer = calmed == NONE || Integer.bitCount(gone) < Integer.bitCount(calmed);
                if ((gone & ~own) == 0 && fewer && lowestUntil(house, own & ~gone) >= mood) {
                    calmed = gone;
                }
            }
            return calmed;
        }

        int ruledCouples() {
            int couples = 0;
            for (int a = 0; a < letters; a++) {
                for (int b = a + 1; b < letters; b++) {
                    if (homes[a] == homes[b] && times[KINDS * kinds[a] + kinds[b]] != NONE) {
                        couples++;
                    }
                }
            }
            return couples;
        }
    }

    /** A WEEK as it was told. */
    private static final class Week {
        int deeds;
        final int[] kinds = new int[MOST_DEEDS];
        final int[] letters = new int[MOST_DEEDS];
        final int[] houses = new int[MOST_DEEDS];

        void copyFrom(Week other) {
            deeds = other.deeds;
            System.arraycopy(other.kinds, 0, kinds, 0, MOST_DEEDS);
            System.arraycopy(other.letters, 0, letters, 0, MOST_DEEDS);
            System.arraycopy(other.houses, 0, houses, 0, MOST_DEEDS);
        }

        void add(int kind, int letter, int house) {
            if (deeds < MOST_DEEDS) {
                kinds[deeds] = kind;
                letters[deeds] = letter;
                houses[deeds] = house;
                deeds++;
            }
        }

        int answer(int k, int what) {
            if (k == NONE && what == 0) {
                return deeds;
            }
            if (k < 0 || k >= deeds) {
                return NO_SUCH;
            }
            switch (what) {
                case 0:
                    return kinds[k];
                case 1:
                    return letters[k];
                case 2:
                    return houses[k];
                default:
                    return NO_SUCH;
            }
        }
    }

    /** A LOG as it was told. */
    private static final class Log {
        int facts;
        final int[] houses = new int[MOST_FACTS];
        final int[] moods = new int[MOST_FACTS];

        void copyFrom(Log other) {
            facts = other.facts;
            System.arraycopy(other.houses, 0, houses, 0, MOST_FACTS);
            System.arraycopy(other.moods, 0, moods, 0, MOST_FACTS);
        }

        void add(int house, int mood) {
            if (facts < MOST_FACTS) {
                houses[facts] = house;
                moods[facts] = mood;
                facts++;
            }
        }

        int answer(int k, int what) {
            if (k == NONE && what == 0) {
                return facts;
            }
            if (k < 0 || k >= facts) {
                return NO_SUCH;
            }
            if (what == 0) {
                return houses[k];
            }
            return what == 1 ? moods[k] : NO_SUCH;
        }

        boolean allIn(Office o) {
            for (int k = 0; k < facts; k++) {
                if (!o.hasHouse(houses[k])) {
                    return false;
                }
            }
            return true;
        }
    }

    /** All that is told: what an image keeps. */
    private static final class Told {
        final byte[] tape = new byte[MOST_BYTES];
        int length;
        int fault;
        int place = NONE;
        final int[] counts = new int[SORTS];
        private final Office[] offices = {new Office(), new Office()};
        private final Week[] weeks = {new Week(), new Week()};
        private final Log[] logs = {new Log(), new Log()};

        void copyFrom(Told other) {
            System.arraycopy(other.tape, 0, tape, 0, MOST_BYTES);
            length = other.length;
            fault = other.fault;
            place = other.place;
            System.arraycopy(other.counts, 0, counts, 0, SORTS);
            for (int k = 0; k < MOST_OF_A_SORT; k++) {
                offices[k].copyFrom(other.offices[k]);
                weeks[k].copyFrom(other.weeks[k]);
                logs[k].copyFrom(other.logs[k]);
            }
        }

        void addBytes(int four) {
            for (int shift = 24; shift >= 0 && length < MOST_BYTES; shift -= 8) {
                tape[length] = (byte) (four >>> shift);
                length++;
            }
        }

        boolean mayTake(int sort, int at) {
            if (sort < 0 || sort >= SORTS) {
                return false;
            }
            return at == NONE ? counts[sort] < MOST_OF_A_SORT : has(sort, at);
        }

        /** Keeps what a reader has read without a FAULT. */
        int take(int sort, int at, Reader reader) {
            if (!mayTake(sort, at)) {
                return NO_SUCH;
            }
            int number = at == NONE ? counts[sort] : at;
            if (at == NONE) {
                counts[sort]++;
            }
            if (sort == OFFICES) {
                offices[number].copyFrom(reader.office);
            } else if (sort == WEEKS) {
                weeks[number].copyFrom(reader.week);
            } else {
                logs[number].copyFrom(reader.log);
            }
            return number;
        }

        private boolean has(int sort, int number) {
            return number >= 0 && number < counts[sort];
        }

        Office officeAt(int number) {
            return has(OFFICES, number) ? offices[number] : null;
        }

        Week weekAt(int number) {
            return has(WEEKS, number) ? weeks[number] : null;
        }

        Log logAt(int number) {
            return has(LOGS, number) ? logs[number] : null;
        }
    }

    /** Reads a text from the tape into an OFFICE, a WEEK or a LOG of its own, or finds its FAULT. */
    private static final class Reader {
        private static final int END = 0;
        private static final int WORD = 1;
        private static final int NUMBER = 2;
        private static final int STOP = 3;
        private static final int NO_TOKEN = 4;

        private static final int HOUSES_LINE = 0;
        private static final int MOOD_LINE = 1;
        private static final int LETTER_LINE = 2;
        private static final int LAW_LINE = 3;
        private static final int MINDS_LINE = 4;
        private static final int GIVE_LINE = 5;
        private static final int SLIP_LINE = 6;
        private static final int BURN_LINE = 7;
        private static final int NIGHT_LINE = 8;
        private static final int FACT_LINE = 9;

        private static final int NUMBERS = 3;
        /** Of each line in turn, the least and the most that its three NUMBERS can be. */
        private static final int[] LEAST = {
            1, 0, 0, 0, 0, 0, 0, 1, 0, 0, 0, 0, 0, 0, 0,
            0, 0, 0, 0, 0, 0, 0, 0, 0, 0, 0, 0, 0, 0, 0};
        private static final int[] MOST = {
            6, 0, 0, 5, 50, 0, 5, 9, 0, 9, 0, 0, 9, 9, 3,
            9, 0, 0, 9, 5, 0, 9, 0, 0, 0, 0, 0, 5, 99, 0};

        final Office office = new Office();
        final Week week = new Week();
        final Log log = new Log();
        int fault;
        int place;

        private byte[] tape;
        private int length;
        private int token;
        private int tokenPlace;
        private int tokenEnd;

        private int linePlace;
        private final int[] kinds = new int[NUMBERS];
        private int kindsTold;
        private final int[] numbers = new int[NUMBERS];
        private final int[] numberPlaces = new int[NUMBERS];
        private int numbersTold;

        private int greatestHouse;
        private int greatestLetter;

        void read(int sort, byte[] bytes, int howMany) {
            begin(bytes, howMany);
            for (int lines = 0; lines <= length; lines++) {
                nextToken();
                if (token == END) {
                    break;
                }
                if (!readLine(sort)) {
                    fault = 1;
                    place = tokenPlace;
                    return;
                }
            }
            if (fault == 0 && sort == OFFICES && !allThere()) {
                note(4, length);
            }
        }

        private void begin(byte[] bytes, int howMany) {
            tape = bytes;
            length = Math.max(0, Math.min(howMany, bytes.length));
            tokenEnd = 0;
            fault = 0;
            place = NONE;
            greatestHouse = NONE;
            greatestLetter = NONE;
            office.clear();
            week.deeds = 0;
            log.facts = 0;
        }

        private boolean allThere() {
            return greatestHouse < office.houses && greatestLetter < office.letters;
        }

        /** Lines are read in the order of their places, so the first FAULT noted is the first by place. */
        private void note(int what, int where) {
            if (fault == 0) {
                fault = what;
                place = where;
            }
        }

        /** Reads a line from the token at hand on; if false, no text goes on with the one at hand then. */
        private boolean readLine(int sort) {
            int line = lineAtHand(sort);
            if (line == NONE) {
                return false;
            }
            linePlace = tokenPlace;
            kindsTold = 0;
            numbersTold = 0;
            String shape = shapeOf(line);
            for (int i = 0; i < shape.length(); i++) {
                nextToken();
                if (!(shape.charAt(i) == 'k' ? takeKind() : takeNumber())) {
                    return false;
                }
            }
            nextToken();
            if (token != STOP) {
                return false;
            }
            noteFaults(line);
            if (fault == 0) {
                tell(line);
            }
            return true;
        }

        private int lineAtHand(int sort) {
            if (sort == OFFICES) {
                return officeLine();
            }
            return sort == WEEKS ? weekLine() : logLine();
        }

        private int officeLine() {
            if (isWord("houses")) {
                return HOUSES_LINE;
            }
            if (isWord("mood")) {
                return MOOD_LINE;
            }
            if (isWord("letter")) {
                return LETTER_LINE;
            }
            if (isWord("law")) {
                return LAW_LINE;
            }
            return isWord("minds") ? MINDS_LINE : NONE;
        }

        private int weekLine() {
            if (isWord("give")) {
                return GIVE_LINE;
            }
            if (isWord("slip")) {
                return SLIP_LINE;
            }
            if (isWord("burn")) {
                return BURN_LINE;
            }
            return isWord("night") ? NIGHT_LINE : NONE;
        }

        private int logLine() {
            return isWord("mood") ? FACT_LINE : NONE;
        }

        /** What comes behind a line's first word: a KIND (k), a NUMBER (n). */
        private static String shapeOf(int line) {
            switch (line) {
                case HOUSES_LINE:
                case GIVE_LINE:
                case BURN_LINE:
                    return "n";
                case LETTER_LINE:
                    return "nkn";
                case LAW_LINE:
                    return "kkn";
                case MINDS_LINE:
                    return "nnn";
                case NIGHT_LINE:
                    return "";
                default:
                    return "nn";
            }
        }

        private boolean takeKind() {
            int kind = kindAtHand();
            if (kind == NONE || kindsTold >= NUMBERS) {
                return false;
            }
            kinds[kindsTold] = kind;
            kindsTold++;
            return true;
        }

        private int kindAtHand() {
            if (isWord("joy")) {
                return JOY;
            }
            if (isWord("blow")) {
                return BLOW;
            }
            if (isWord("money")) {
                return MONEY;
            }
            return isWord("nothing") ? KINDS - 1 : NONE;
        }

        private boolean takeNumber() {
            if (token != NUMBER || numbersTold >= NUMBERS) {
                return false;
            }
            int value = 0;
            for (int i = tokenPlace; i < tokenEnd; i++) {
                value = 10 * value + tape[i] - '0';
            }
            numbers[numbersTold] = value;
            numberPlaces[numbersTold] = tokenPlace;
            numbersTold++;
            return true;
        }

        private void noteFaults(int line) {
            if (isTooMany(line)) {
                note(3, linePlace);
            }
            for (int i = 0; i < numbersTold; i++) {
                int limit = NUMBERS * line + i;
                boolean minder = line == MINDS_LINE && i == 1 && numbers[1] == numbers[0];
                if (numbers[i] < LEAST[limit] || numbers[i] > MOST[limit] || minder) {
                    note(2, numberPlaces[i]);
                }
            }
        }

        private boolean isTooMany(int line) {
            switch (line) {
                case HOUSES_LINE:
                case MOOD_LINE:
                case MINDS_LINE:
                    return false;
                case LETTER_LINE:
                    return office.letters >= MOST_LETTERS;
                case LAW_LINE:
                    return office.laws >= MOST_LAWS && office.times[lawAtHand()] == NONE;
                case FACT_LINE:
                    return log.facts >= MOST_FACTS;
                default:
                    return week.deeds >= MOST_DEEDS;
            }
        }

        private int lawAtHand() {
            return KINDS * kinds[0] + kinds[1];
        }

        private void tell(int line) {
            switch (line) {
                case HOUSES_LINE:
                    office.houses = numbers[0];
                    break;
                case MOOD_LINE:
                    office.moods[numbers[0]] = numbers[1];
                    greatestHouse = Math.max(greatestHouse, numbers[0]);
                    break;
                case LETTER_LINE:
                    office.addLetter(numbers[0], kinds[0], numbers[1]);
                    greatestHouse = Math.max(greatestHouse, numbers[0]);
                    break;
                case LAW_LINE:
                    tellLaw();
                    break;
                case MINDS_LINE:
                    office.minded[numbers[0]] = numbers[1];
                    office.shifts[numbers[0]] = numbers[2];
                    greatestLetter = Math.max(greatestLetter, Math.max(numbers[0], numbers[1]));
                    break;
                case GIVE_LINE:
                    week.add(GIVE, numbers[0], NONE);
                    break;
                case SLIP_LINE:
                    week.add(SLIP, numbers[0], numbers[1]);
                    break;
                case BURN_LINE:
                    week.add(BURN, numbers[0], NONE);
                    break;
                case NIGHT_LINE:
                    week.add(NIGHT, NONE, NONE);
                    break;
                default:
                    log.add(numbers[0], numbers[1]);
                    break;
            }
        }

        private void tellLaw() {
            int law = lawAtHand();
            if (office.times[law] == NONE) {
                office.laws++;
            }
            office.times[law] = numbers[0];
        }

        private void nextToken() {
            int from = tokenEnd;
            while (from < length && isBlank(tape[from])) {
                from++;
            }
            tokenPlace = from;
            tokenEnd = Math.min(from + 1, length);
            if (from >= length) {
                token = END;
            } else if (isSmall(tape[from])) {
                takeWord();
            } else if (isDigit(tape[from])) {
                takeDigits();
            } else {
                token = tape[from] == ';' ? STOP : NO_TOKEN;
            }
        }

        private void takeWord() {
            while (tokenEnd < length && isSmall(tape[tokenEnd])) {
                tokenEnd++;
            }
            token = WORD;
        }

        private void takeDigits() {
            while (tokenEnd < length && isDigit(tape[tokenEnd])) {
                tokenEnd++;
            }
            token = tokenEnd - tokenPlace <= 2 ? NUMBER : NO_TOKEN;
        }

        private static boolean isBlank(int sign) {
            return sign == 10 || sign == 32;
        }

        private static boolean isSmall(int sign) {
            return sign >= 'a' && sign <= 'z';
        }

        private static boolean isDigit(int sign) {
            return sign >= '0' && sign <= '9';
        }

        private boolean isWord(String word) {
            if (token != WORD || tokenEnd - tokenPlace != word.length()) {
                return false;
            }
            for (int i = 0; i < word.length(); i++) {
                if (tape[tokenPlace + i] != word.charAt(i)) {
                    return false;
                }
            }
            return true;
        }
    }

    /** How an OFFICE stands while DEEDS are done in it. */
    private static final class Course {
        private Office office;
        private int seed;
        private int left;
        private int nights;
        private int slipped;
        private int did;
        final int[] moods = new int[MOST_HOUSES];
        private final int[] last = new int[MOST_HOUSES];
        private final int[] came = new int[MOST_HOUSES];
        int grieved;
        int low;
        int failed;
        int idle;

        void begin(Office o) {
            office = o;
            left = (1 << o.letters) - 1;
            nights = 0;
            slipped = 0;
            did = 0;
            System.arraycopy(o.moods, 0, moods, 0, MOST_HOUSES);
            Arrays.fill(last, NONE);
            Arrays.fill(came, 0);
            grieved = 0;
            low = moods[0];
            failed = 0;
            idle = 0;
            noteLow();
        }

        /** Does the first n DEEDS, as far as they can be: how many were done. */
        int run(Office o, Week week, int n) {
            begin(o);
            int most = Math.min(n, week.deeds);
            for (int k = 0; k < most; k++) {
                if (!mayDo(week.kinds[k], week.letters[k], week.houses[k])) {
                    return k;
                }
            }
            return most;
        }

        void draw(Office o, int from, int n) {
            begin(o);
            seed = from;
            for (int i = 0; i < n; i++) {
                drawDeed();
            }
        }

        private void drawDeed() {
            int kind = drawBelow(8);
            if (kind == 7) {
                mayDo(NIGHT, NONE, NONE);
            } else if (office.letters > 0) {
                int letter = drawBelow(office.letters);
                if (kind < 4) {
                    mayDo(GIVE, letter, NONE);
                } else if (kind < 6) {
                    mayDo(SLIP, letter, drawBelow(office.houses));
                } else {
                    mayDo(BURN, letter, NONE);
                }
            }
        }

        private int drawBelow(int n) {
            seed = seed * 1103515245 + 12345;
            return n > 0 ? (seed >>> 16) % n : 0;
        }

        /** Does a DEED, if it can be: whether it could. */
        private boolean mayDo(int kind, int letter, int house) {
            if (kind == NIGHT) {
                passNight();
                noteLow();
                return true;
            }
            if (!office.hasLetter(letter) || (left >> letter & 1) == 0) {
                return false;
            }
            if (kind == SLIP && (!office.hasHouse(house) || house == office.homes[letter])) {
                return false;
            }
            if (kind == BURN) {
                left &= ~(1 << letter);
                return true;
            }
            if (kind == SLIP) {
                slipped++;
            }
            bring(letter, kind == SLIP ? house : office.homes[letter]);
            noteLow();
            return true;
        }

        private void passNight() {
            nights++;
            for (int h = 0; h < office.houses; h++) {
                moods[h] -= Integer.compare(moods[h], 10);
                last[h] = NONE;
            }
        }

        void bring(int letter, int house) {
            int does = office.does(letter, last[house]);
            left &= ~(1 << letter);
            moods[house] += does;
            last[house] = office.kinds[letter];
            came[house]++;
            did += does;
            if (does != office.plains[letter]) {
                failed |= 1 << letter;
            }
            if (does == 0) {
                idle++;
            }
        }

        private void noteLow() {
            for (int h = 0; h < office.houses; h++) {
                if (moods[h] < low || moods[h] == low && h < grieved) {
                    low = moods[h];
                    grieved = h;
                }
            }
        }

        int answer(int what) {
            switch (what) {
                case 0:
                    return nights;
                case 1:
                    return left;
                case 2:
                    return slipped;
                case 3:
                    return did;
                case 4:
                    return moodsTogether();
                default:
                    return what < 10 ? NOT_SO : ofHouse(what / 10, what % 10);
            }
        }

        private int moodsTogether() {
            int together = 0;
            for (int h = 0; h < office.houses; h++) {
                together += moods[h];
            }
            return together;
        }

        private int ofHouse(int what, int house) {
            if (!office.hasHouse(house)) {
                return NOT_SO;
            }
            switch (what) {
                case 1:
                    return moods[house];
                case 2:
                    return last[house];
                case 3:
                    return came[house];
                default:
                    return NOT_SO;
            }
        }
    }

    /** BEST and WORST, what is said by them, and how two SORTERS do. */
    private static final class Orders {
        private static final int AHEADS = KINDS + 1;
        private static final int NOTHING_CAME = KINDS;

        int found;
        int much;
        /** The LETTERS that come, by numbers; a place is a number in this row. */
        private int size;
        private final int[] group = new int[MOST_LETTERS];
        private final int[] kinds = new int[MOST_LETTERS];
        /** What the LETTER of a place DOES behind a KIND, or (the last of five) behind nothing. */
        private final int[] doings = new int[MOST_LETTERS * AHEADS];
        /** By the places left (bits) and what came last: the most that they can do; with none left, always 0. */
        private final int[] gains = new int[(1 << MOST_LETTERS) * AHEADS];
        private final int[] bests = new int[MOST_HOUSES];
        private final int[] leads = new int[MOST_LETTERS];
        private final Office trial = new Office();

        /** BEST or WORST of a HOUSE, if a LETTER (or NONE) never came. */
        int moodOf(Office o, int house, int without, boolean worst) {
            // WORST is the most that LETTERS can do, if what each DOES is turned round.
            int sign = worst ? -1 : 1;
            size = 0;
            for (int l = 0; l < o.letters; l++) {
                if (o.homes[l] == house && l != without) {
                    addToGroup(o, l, sign);
                }
            }
            for (int left = 1; left < 1 << size; left++) {
                fillGains(left);
            }
            return o.moods[house] + sign * gains[AHEADS * ((1 << size) - 1) + NOTHING_CAME];
        }

        private void addToGroup(Office o, int letter, int sign) {
            group[size] = letter;
            kinds[size] = o.kinds[letter];
            for (int ahead = 0; ahead < AHEADS; ahead++) {
                int kind = ahead == NOTHING_CAME ? NONE : ahead;
                doings[AHEADS * size + ahead] = sign * o.does(letter, kind);
            }
            size++;
        }

        private void fillGains(int left) {
            int row = AHEADS * left;
            boolean any = false;
            for (int i = 0; i < size; i++) {
                if ((left >> i & 1) == 1) {
                    int rest = gains[AHEADS * (left & ~(1 << i)) + kinds[i]];
                    for (int ahead = 0; ahead < AHEADS; ahead++) {
                        int gain = doings[AHEADS * i + ahead] + rest;
                        if (!any || gain > gains[row + ahead]) {
                            gains[row + ahead] = gain;
                        }
                    }
                    any = true;
                }
            }
        }

        /** The k-th LETTER of the first of the orders that moodOf has looked at last. */
        int letterAt(int k) {
            int left = (1 << size) - 1;
            int ahead = NOTHING_CAME;
            for (int step = 0; step < size; step++) {
                int place = firstPlace(left, ahead);
                if (step == k) {
                    return group[place];
                }
                left &= ~(1 << place);
                ahead = kinds[place];
            }
            return NOT_SO;
        }

        private int firstPlace(int left, int ahead) {
            for (int i = 0; i < size; i++) {
                if ((left >> i & 1) == 1) {
                    int rest = gains[AHEADS * (left & ~(1 << i)) + kinds[i]];
                    if (doings[AHEADS * i + ahead] + rest == gains[AHEADS * left + ahead]) {
                        return i;
                    }
                }
            }
            return 0;
        }

        /** BESTS of all HOUSES together. */
        private int together(Office o) {
            int sum = 0;
            for (int h = 0; h < o.houses; h++) {
                sum += moodOf(o, h, NONE, false);
            }
            return sum;
        }

        void findStrongest(Office o) {
            int whole = together(o);
            trial.copyFrom(o);
            found = NONE;
            much = NONE;
            for (int law = 0; law < KINDS * KINDS; law++) {
                if (o.times[law] != NONE) {
                    trial.times[law] = NONE;
                    int change = Math.abs(together(trial) - whole);
                    trial.times[law] = o.times[law];
                    if (change > much) {
                        found = 100 + law;
                        much = change;
                    }
                }
            }
        }

        void findSwapped(Office o) {
            found = NONE;
            much = together(o);
            trial.copyFrom(o);
            for (int a = 0; a < o.letters; a++) {
                for (int b = a + 1; b < o.letters; b++) {
                    if (o.homes[a] != o.homes[b]) {
                        trySwap(o, a, b);
                    }
                }
            }
        }

        private void trySwap(Office o, int a, int b) {
            trial.homes[a] = o.homes[b];
            trial.homes[b] = o.homes[a];
            int sum = together(trial);
            trial.homes[a] = o.homes[a];
            trial.homes[b] = o.homes[b];
            if (sum > much) {
                found = 10 * a + b;
                much = sum;
            }
        }

        int touched(Office o) {
            int houses = 0;
            for (int h = 0; h < o.houses; h++) {
                if (moodOf(o, h, NONE, false) != moodOf(o, h, NONE, true)) {
                    houses++;
                }
            }
            return houses;
        }

        int ranked(Office o, int k) {
            for (int h = 0; h < o.houses; h++) {
                bests[h] = moodOf(o, h, NONE, false);
            }
            for (int h = 0; h < o.houses; h++) {
                if (rankOf(o, h) == k) {
                    return h;
                }
            }
            return NONE;
        }

        private int rankOf(Office o, int house) {
            int ahead = 0;
            for (int h = 0; h < o.houses; h++) {
                if (bests[h] > bests[house] || bests[h] == bests[house] && h < house) {
                    ahead++;
                }
            }
            return ahead;
        }

        /** SORTERS: by how much the first one has more, or (first) what he takes at first. */
        int lead(Office o, boolean first) {
            int n = o.letters;
            if (n == 0) {
                return first ? NONE : 0;
            }
            Arrays.fill(leads, 0);
            int byFirst = o.plains[0];
            int byLast = byFirst;
            for (int length = 1; length <= n; length++) {
                for (int from = 0; from + length <= n; from++) {
                    int to = from + length - 1;
                    byFirst = o.plains[from] - (length == 1 ? 0 : leads[from + 1]);
                    byLast = o.plains[to] - (length == 1 ? 0 : leads[from]);
                    leads[from] = Math.max(byFirst, byLast);
                }
            }
            if (first) {
                return byFirst >= byLast ? 0 : 1;
            }
            return leads[0];
        }
    }

    /** RACKS; those of all LETTERS stand in one number, two bits each. */
    private static final class Racks {
        /** Rows of minding are at most ten long: behind so many rounds racks go round in their ring. */
        private static final int IN_RING = MOST_LETTERS;
        /** Far above the longest ring of ten LETTERS, 120 rounds. */
        private static final int MOST_ROUNDS = 1000;

        int ring;
        int blind;

        private static int atFirst(Office o) {
            int all = 0;
            for (int l = 0; l < o.letters; l++) {
                all |= o.kinds[l] << 2 * l;
            }
            return all;
        }

        private static int behindRound(Office o, int all) {
            int next = 0;
            for (int l = 0; l < o.letters; l++) {
                int whom = o.minded[l];
                int rack = whom == NONE ? all >> 2 * l : (all >> 2 * whom) + o.shifts[l];
                next |= (rack & 3) << 2 * l;
            }
            return next;
        }

        private static int behindRounds(Office o, int n) {
            int all = atFirst(o);
            for (int i = 0; i < n; i++) {
                all = behindRound(o, all);
            }
            return all;
        }

        int rackOf(Office o, int letter, int n) {
            return behindRounds(o, n) >> 2 * letter & 3;
        }

        int settledBehind(Office o) {
            int all = atFirst(o);
            for (int n = 0; n <= IN_RING; n++) {
                int next = behindRound(o, all);
                if (next == all) {
                    return n;
                }
                all = next;
            }
            return NONE;
        }

        /** AGAIN and BLIND. */
        void findRing(Office o) {
            int start = behindRounds(o, IN_RING);
            int changed = 0;
            int all = start;
            ring = 0;
            for (int n = 1; n <= MOST_ROUNDS && ring == 0; n++) {
                all = behindRound(o, all);
                changed |= all ^ start;
                if (all == start) {
                    ring = n;
                }
            }
            blind = 0;
            for (int l = 0; l < o.letters; l++) {
                if ((changed >> 2 * l & 3) != 0) {
                    blind |= 1 << l;
                }
            }
        }

        /** FOLLOW. */
        int longestRow(Office o) {
            int longest = 0;
            for (int l = 0; l < o.letters; l++) {
                longest = Math.max(longest, rowFrom(o, l));
            }
            return longest;
        }

        private static int rowFrom(Office o, int letter) {
            int seen = 0;
            int at = letter;
            int row = 0;
            for (; row < o.letters && at != NONE && (seen >> at & 1) == 0; row++) {
                seen |= 1 << at;
                at = o.minded[at];
            }
            return row;
        }

        /** LOOSE: racks settle if one LETTER of each ring of minding that goes on for ever minds nobody. */
        int loosened(Office o) {
            findRing(o);
            int loose = 0;
            for (int l = 0; l < o.letters; l++) {
                if ((blind >> l & 1) == 1 && leastOfRing(o, l) == l) {
                    loose |= 1 << l;
                }
            }
            return loose;
        }

        /** NONE, if minding does not come back to the LETTER. */
        private static int leastOfRing(Office o, int letter) {
            int least = letter;
            int at = letter;
            for (int i = 0; i < o.letters; i++) {
                at = o.minded[at];
                if (at == NONE) {
                    return NONE;
                }
                if (at == letter) {
                    return least;
                }
                least = Math.min(least, at);
            }
            return NONE;
        }
    }

    /** BAGS. */
    private static final class Bags {
        final int[] dayOf = new int[MOST_LETTERS];
        private final int[] given = new int[MOST_LETTERS];
        private final int[] loads = new int[MOST_LETTERS * MOST_HOUSES];
        private Office office;
        private int force;
        private int most;

        int fewest(Office o, int mostForce, int mostLetters) {
            office = o;
            force = mostForce;
            most = mostLetters;
            for (int l = 0; l < o.letters; l++) {
                if (o.forces[l] > force) {
                    return NONE;
                }
            }
            for (int days = 0; days <= o.letters; days++) {
                Arrays.fill(given, 0);
                Arrays.fill(loads, 0);
                if (place(0, 0, days)) {
                    return days;
                }
            }
            return NONE;
        }

        /** Days come into use by their numbers, so that the first row found is the first by numbers. */
        private boolean place(int letter, int used, int days) {
            if (letter >= office.letters) {
                return true;
            }
            int house = office.homes[letter];
            int weight = office.forces[letter];
            for (int day = 0; day <= used && day < days; day++) {
                int load = MOST_HOUSES * day + house;
                if (given[day] < most && loads[load] + weight <= force) {
                    given[day]++;
                    loads[load] += weight;
                    dayOf[letter] = day;
                    if (place(letter + 1, Math.max(used, day + 1), days)) {
                        return true;
                    }
                    given[day]--;
                    loads[load] -= weight;
                }
            }
            return false;
        }
    }

    /** The SLIPS that FIT a LOG, and the MOODS that each of them leads to. */
    private static final class Slips {
        private static final int NO_SLIP = 99;
        private static final int MOST_SLIPS = MOST_HOUSES * MOST_LETTERS + 1;

        int found;
        private final int[] codes = new int[MOST_SLIPS];
        private final int[] moods = new int[MOST_SLIPS * MOST_HOUSES];
        private final Course course = new Course();
        private int houses;

        void find(Office o, Log log) {
            found = 0;
            houses = o.houses;
            for (int house = 0; house < o.houses; house++) {
                for (int letter = 0; letter < o.letters; letter++) {
                    if (o.homes[letter] != house) {
                        tryOut(o, log, 10 * house + letter);
                    }
                }
            }
            tryOut(o, log, NO_SLIP);
        }

        private void tryOut(Office o, Log log, int code) {
            course.begin(o);
            for (int l = 0; l < o.letters; l++) {
                boolean slips = code != NO_SLIP && l == code % 10;
                course.bring(l, slips ? code / 10 : o.homes[l]);
            }
            if (found < MOST_SLIPS && agrees(o, log)) {
                codes[found] = code;
                System.arraycopy(course.moods, 0, moods, MOST_HOUSES * found, MOST_HOUSES);
                found++;
            }
        }

        private boolean agrees(Office o, Log log) {
            for (int k = 0; k < log.facts; k++) {
                int house = log.houses[k];
                if (!o.hasHouse(house) || course.moods[house] != log.moods[k]) {
                    return false;
                }
            }
            return true;
        }

        int moodOf(int k, int house) {
            return moods[MOST_HOUSES * k + house];
        }

        int answer(int what) {
            switch (what) {
                case 0:
                    return found;
                case 1:
                    return sureLetter();
                case 2:
                    return sureHouse();
                case 3:
                    return ask();
                default:
                    return what >= 10 && what - 10 < found ? codes[what - 10] : NO_SUCH;
            }
        }

        private int sureLetter() {
            if (found == 0) {
                return NONE;
            }
            for (int k = 0; k < found; k++) {
                if (codes[k] == NO_SLIP || codes[k] % 10 != codes[0] % 10) {
                    return NONE;
                }
            }
            return codes[0] % 10;
        }

        private int sureHouse() {
            if (found == 0) {
                return NONE;
            }
            for (int k = 0; k < found; k++) {
                if (codes[k] == NO_SLIP || codes[k] / 10 != codes[0] / 10) {
                    return NONE;
                }
            }
            return codes[0] / 10;
        }

        private int ask() {
            int asked = NONE;
            int least = found + 1;
            for (int h = 0; h < houses && found > 0; h++) {
                int greatest = greatestAlike(h);
                if (greatest < least) {
                    asked = h;
                    least = greatest;
                }
            }
            return asked;
        }

        private int greatestAlike(int house) {
            int greatest = 0;
            for (int a = 0; a < found; a++) {
                int alike = 0;
                for (int b = 0; b < found; b++) {
                    if (moodOf(a, house) == moodOf(b, house)) {
                        alike++;
                    }
                }
                greatest = Math.max(greatest, alike);
            }
            return greatest;
        }
    }

    /** Fractions: means, and how likely something is. */
    private static final class Chances {
        private long above;
        private long below;
        private Office office;
        private final int[] changes = new int[MOST_HOUSES];
        private final int[] last = new int[MOST_HOUSES];

        long answer(boolean under) {
            long common = commonOf(Math.abs(above), below);
            if (common == 0) {
                return 0;
            }
            return (under ? below : above) / common;
        }

        private static long commonOf(long a, long b) {
            long more = a;
            long less = b;
            // Each two steps halve the number, so 63 bits want fewer than 200.
            for (int i = 0; i < 200 && less != 0; i++) {
                long rest = more % less;
                more = less;
                less = rest;
            }
            return more;
        }

        /** In all orders alike a LETTER comes first, and next behind each other one, as often. */
        void findMean(Office o, int house) {
            int own = o.lettersOf(house);
            below = Math.max(1, Integer.bitCount(own));
            above = o.moods[house] * below;
            for (int l = 0; l < o.letters; l++) {
                for (int ahead = 0; ahead < o.letters; ahead++) {
                    if ((own >> l & 1) == 1 && (own >> ahead & 1) == 1) {
                        above += o.does(l, l == ahead ? NONE : o.kinds[ahead]);
                    }
                }
            }
        }

        void findSpared(Office o, int house, int p, int m) {
            int own = o.lettersOf(house);
            int all = Integer.bitCount(own);
            above = 0;
            below = power(10, all);
            for (int gone = 0; gone < 1 << o.letters; gone++) {
                if ((gone & ~own) == 0 && o.moodBehind(house, own & ~gone) >= m) {
                    int lost = Integer.bitCount(gone);
                    above += power(p, lost) * power(10 - p, all - lost);
                }
            }
        }

        private static long power(int base, int n) {
            long power = 1;
            for (int i = 0; i < n; i++) {
                power *= base;
            }
            return power;
        }

        void findHoped(Office o, int n) {
            above = 0;
            below = 0;
            for (int set = 0; set < 1 << o.letters; set++) {
                if (Integer.bitCount(set) == n) {
                    above += moodsBehind(o, set);
                    below++;
                }
            }
        }

        private int moodsBehind(Office o, int set) {
            Arrays.fill(last, NONE);
            int together = 0;
            for (int h = 0; h < o.houses; h++) {
                together += o.moods[h];
            }
            for (int l = 0; l < o.letters; l++) {
                if ((set >> l & 1) == 1) {
                    int home = o.homes[l];
                    together += o.does(l, last[home]);
                    last[home] = o.kinds[l];
                }
            }
            return together;
        }

        void findStrike(Office o, int k) {
            office = o;
            above = 0;
            below = 0;
            Arrays.fill(changes, 0);
            Arrays.fill(last, NONE);
            goOn(0, k);
        }

        /** Goes through all ways from a LETTER on, with so many that may still come to any HOUSE. */
        private void goOn(int letter, int more) {
            int rest = office.letters - letter;
            if (rest <= 0) {
                below++;
                above += noneIsLower() ? 1 : 0;
                return;
            }
            if (more < rest) {
                bring(letter, office.homes[letter], more);
            }
            for (int h = 0; h < office.houses && more > 0; h++) {
                bring(letter, h, more - 1);
            }
        }

        private void bring(int letter, int house, int more) {
            int ahead = last[house];
            int does = office.does(letter, ahead);
            changes[house] += does;
            last[house] = office.kinds[letter];
            goOn(letter + 1, more);
            changes[house] -= does;
            last[house] = ahead;
        }

        private boolean noneIsLower() {
            for (int h = 0; h < office.houses; h++) {
                if (changes[h] < 0) {
                    return false;
                }
            }
            return true;
        }
    }
}

import java.math.BigInteger;
import java.util.ArrayList;
import java.util.Arrays;
import java.util.HashMap;
import java.util.HashSet;
import java.util.List;
import java.util.Map;
import java.util.Set;
import java.util.TreeMap;
import java.util.TreeSet;
import java.util.regex.Matcher;
import java.util.regex.Pattern;

/** The document done once more, by trying out everything: slow, and in another way than SortedOffice. */
final class Model {
    static final List<String> KINDS = List.of("joy", "blow", "money", "nothing");

    private Model() {
    }

    // ---- texts

    record Token(int place, String text) {
    }

    /** What a text tells, or its fault. */
    static final class Text {
        int fault = 0;
        int place = -1;
        Office office = new Office();
        List<int[]> deeds = new ArrayList<>();
        List<int[]> facts = new ArrayList<>();
    }

    static final class Office {
        int houses = 3;
        int[] moods = {10, 10, 10, 10, 10, 10};
        List<int[]> letters = new ArrayList<>();
        Map<Integer, Integer> laws = new TreeMap<>();
        Map<Integer, int[]> minds = new TreeMap<>();

        Office copy() {
            Office o = new Office();
            o.houses = houses;
            o.moods = moods.clone();
            for (int[] l : letters) {
                o.letters.add(l.clone());
            }
            o.laws.putAll(laws);
            o.minds.putAll(minds);
            return o;
        }

        int house(int l) {
            return letters.get(l)[0];
        }

        int kind(int l) {
            return letters.get(l)[1];
        }

        int size() {
            return letters.size();
        }

        int plain(int l) {
            int force = letters.get(l)[2];
            return switch (kind(l)) {
                case 0 -> force;
                case 1 -> -force;
                case 2 -> (force - force % 2) / 2;
                default -> 0;
            };
        }

        int does(int l, int ahead) {
            int times = ahead < 0 ? 1 : laws.getOrDefault(4 * ahead + kind(l), 1);
            return plain(l) * times;
        }

        List<Integer> of(int house) {
            List<Integer> of = new ArrayList<>();
            for (int l = 0; l < size(); l++) {
                if (house(l) == house) {
                    of.add(l);
                }
            }
            return of;
        }
    }

    private static final String[] GRAMMARS = {
        "(?:Hn;|Mnn;|Lnkn;|Wkkn;|Dnnn;)*\\$", "(?:Gn;|Snn;|Bn;|N;)*\\$", "(?:Mnn;)*\\$"};
    private static final Map<String, Character> SIGNS = Map.of("houses", 'H', "mood", 'M', "letter", 'L',
        "law", 'W', "minds", 'D', "give", 'G', "slip", 'S', "burn", 'B', "night", 'N', ";", ';');

    private static char signOf(Token t) {
        if (t.text.isEmpty()) {
            return '$';
        }
        if (t.text.matches("[0-9]{1,2}")) {
            return 'n';
        }
        return KINDS.contains(t.text) ? 'k' : SIGNS.getOrDefault(t.text, '?');
    }

    static Text read(int sort, String text) {
        List<Token> tokens = new ArrayList<>();
        Matcher m = Pattern.compile("[a-z]+|[0-9]+|[^ \n]").matcher(text);
        while (m.find()) {
            tokens.add(new Token(m.start(), m.group()));
        }
        tokens.add(new Token(text.length(), ""));
        Text t = new Text();
        StringBuilder shape = new StringBuilder();
        for (Token token : tokens) {
            shape.append(signOf(token));
            Matcher g = Pattern.compile(GRAMMARS[sort]).matcher(shape);
            if (!g.matches() && !g.hitEnd()) {
                t.fault = 1;
                t.place = token.place;
                return t;
            }
        }
        TreeSet<Integer> faults = new TreeSet<>();
        Set<Integer> toldHouses = new HashSet<>();
        Set<Integer> toldLetters = new HashSet<>();
        int from = 0;
        for (int i = 0; i < tokens.size(); i++) {
            if (tokens.get(i).text.equals(";")) {
                readLine(sort, tokens.subList(from, i), t, faults, toldHouses, toldLetters);
                from = i + 1;
            }
        }
        if (!faults.isEmpty()) {
            t.fault = faults.first() % 10;
            t.place = faults.first() / 10;
        } else if (sort == 0) {
            boolean gone = toldHouses.stream().anyMatch(h -> h >= t.office.houses)
                || toldLetters.stream().anyMatch(l -> l >= t.office.size());
            if (gone) {
                t.fault = 4;
                t.place = text.length();
            }
        }
        return t;
    }

    private static int number(List<Token> line, int i, int least, int most, Set<Integer> faults) {
        int n = Integer.parseInt(line.get(i).text);
        if (n < least || n > most) {
            faults.add(10 * line.get(i).place + 2);
        }
        return n;
    }

    private static void readLine(int sort, List<Token> line, Text t, Set<Integer> faults,
            Set<Integer> toldHouses, Set<Integer> toldLetters) {
        int begin = 10 * line.get(0).place;
        Office o = t.office;
        switch (line.get(0).text) {
            case "houses" -> o.houses = number(line, 1, 1, 6, faults);
            case "mood" -> {
                int house = number(line, 1, 0, 5, faults);
                int mood = number(line, 2, 0, sort == 0 ? 50 : 99, faults);
                toldHouses.add(house);
                if (sort == 0 && house < 6) {
                    o.moods[house] = mood;
                }
                t.facts.add(new int[] {house, mood});
                if (sort == 2 && t.facts.size() > 8) {
                    faults.add(begin + 3);
                }
            }
            case "letter" -> {
                int house = number(line, 1, 0, 5, faults);
                toldHouses.add(house);
                o.letters.add(new int[] {house, KINDS.indexOf(line.get(2).text), number(line, 3, 1, 9, faults)});
                if (o.size() > 10) {
                    faults.add(begin + 3);
                }
            }
            case "law" -> {
                int law = 4 * KINDS.indexOf(line.get(1).text) + KINDS.indexOf(line.get(2).text);
                o.laws.put(law, number(line, 3, 0, 9, faults));
                if (o.laws.size() > 8) {
                    faults.add(begin + 3);
                }
            }
            case "minds" -> {
                int one = number(line, 1, 0, 9, faults);
                int other = number(line, 2, 0, 9, faults);
                if (one == other) {
                    faults.add(10 * line.get(2).place + 2);
                }
                toldLetters.add(one);
                toldLetters.add(other);
                o.minds.put(one, new int[] {other, number(line, 3, 0, 3, faults)});
            }
            default -> {
                int kind = List.of("give", "slip", "burn", "night").indexOf(line.get(0).text);
                int letter = kind < 3 ? number(line, 1, 0, 9, faults) : -1;
                int house = kind == 1 ? number(line, 2, 0, 5, faults) : -1;
                t.deeds.add(new int[] {kind, letter, house});
                if (t.deeds.size() > 40) {
                    faults.add(begin + 3);
                }
            }
        }
    }

    // ---- weeks

    /** How an office stands; each coming is kept as letter, house, what it did. */
    static final class State {
        final Office o;
        int[] moods;
        int[] last = {-1, -1, -1, -1, -1, -1};
        Set<Integer> left = new TreeSet<>();
        List<int[]> comings = new ArrayList<>();
        int nights = 0;
        List<int[]> moodsEver = new ArrayList<>();

        State(Office o) {
            this.o = o;
            moods = o.moods.clone();
            for (int l = 0; l < o.size(); l++) {
                left.add(l);
            }
            moodsEver.add(moods.clone());
        }

        void come(int l, int house) {
            int does = o.does(l, last[house]);
            left.remove(l);
            moods[house] += does;
            last[house] = o.kind(l);
            comings.add(new int[] {l, house, does});
        }

        boolean done(int[] deed) {
            if (deed[0] == 3) {
                nights++;
                for (int h = 0; h < 6; h++) {
                    moods[h] = moods[h] > 10 ? moods[h] - 1 : moods[h] < 10 ? moods[h] + 1 : 10;
                    last[h] = -1;
                }
            } else if (!left.contains(deed[1])) {
                return false;
            } else if (deed[0] == 2) {
                left.remove(deed[1]);
            } else if (deed[0] == 0) {
                come(deed[1], o.house(deed[1]));
            } else if (deed[2] >= o.houses || deed[2] == o.house(deed[1])) {
                return false;
            } else {
                come(deed[1], deed[2]);
            }
            moodsEver.add(moods.clone());
            return true;
        }

        int bits() {
            return left.stream().mapToInt(l -> 1 << l).sum();
        }

        int answer(int what) {
            int h = what % 10;
            if (what >= 0 && what <= 4) {
                return switch (what) {
                    case 0 -> nights;
                    case 1 -> bits();
                    case 2 -> (int) comings.stream().filter(c -> o.house(c[0]) != c[1]).count();
                    case 3 -> comings.stream().mapToInt(c -> c[2]).sum();
                    default -> Arrays.stream(moods, 0, o.houses).sum();
                };
            }
            if (what < 10 || what >= 40 || h >= o.houses) {
                return -1000;
            }
            return what < 20 ? moods[h] : what < 30 ? last[h]
                : (int) comings.stream().filter(c -> c[1] == h).count();
        }
    }

    static int end(Office o, List<int[]> deeds) {
        State s = new State(o);
        for (int k = 0; k < deeds.size(); k++) {
            if (!s.done(deeds.get(k))) {
                return k;
            }
        }
        return deeds.size();
    }

    static State behind(Office o, List<int[]> deeds, int n) {
        State s = new State(o);
        for (int k = 0; k < n; k++) {
            s.done(deeds.get(k));
        }
        return s;
    }

    static int after(Office o, List<int[]> deeds, int what) {
        State s = behind(o, deeds, end(o, deeds));
        int low = Integer.MAX_VALUE;
        for (int[] m : s.moodsEver) {
            for (int h = 0; h < o.houses; h++) {
                low = Math.min(low, m[h]);
            }
        }
        int bits = 0;
        int idle = 0;
        for (int[] c : s.comings) {
            bits |= c[2] != o.plain(c[0]) ? 1 << c[0] : 0;
            idle += c[2] == 0 ? 1 : 0;
        }
        if (what == 0) {
            for (int h = 0; h < o.houses; h++) {
                for (int[] m : s.moodsEver) {
                    if (m[h] == low) {
                        return h;
                    }
                }
            }
        }
        return what == 1 ? low : what == 2 ? bits : idle;
    }

    static State drawn(Office o, int seed, int n) {
        State s = new State(o);
        long[] x = {seed & 0xffffffffL};
        for (int i = 0; i < n; i++) {
            int d = draw(x, 8);
            if (d == 7) {
                s.done(new int[] {3, -1, -1});
            } else if (o.size() > 0) {
                int l = draw(x, o.size());
                int h = d == 4 || d == 5 ? draw(x, o.houses) : -1;
                s.done(new int[] {d < 4 ? 0 : d < 6 ? 1 : 2, l, h});
            }
        }
        return s;
    }

    private static int draw(long[] x, int n) {
        x[0] = x[0] * 1103515245L + 12345L & 0xffffffffL;
        return (int) ((x[0] >> 16) % n);
    }

    // ---- orders

    interface Use {
        void order(List<Integer> order);
    }

    /** All orders, the first by numbers first. */
    static void orders(List<Integer> letters, List<Integer> row, Use use) {
        if (letters.isEmpty()) {
            use.order(row);
        }
        for (Integer l : letters) {
            List<Integer> rest = new ArrayList<>(letters);
            rest.remove(l);
            row.add(l);
            orders(rest, row, use);
            row.remove(row.size() - 1);
        }
    }

    static int moodBy(Office o, int house, List<Integer> row) {
        int mood = o.moods[house];
        int last = -1;
        for (int l : row) {
            mood += o.does(l, last);
            last = o.kind(l);
        }
        return mood;
    }

    static final class Best {
        Integer mood = null;
        List<Integer> row = null;
    }

    static Best best(Office o, int house, List<Integer> letters, boolean worst) {
        Best b = new Best();
        orders(letters, new ArrayList<>(), row -> {
            int mood = moodBy(o, house, row);
            if (b.mood == null || (worst ? mood < b.mood : mood > b.mood)) {
                b.mood = mood;
                b.row = new ArrayList<>(row);
            }
        });
        return b;
    }

    static int best(Office o, int house) {
        return best(o, house, o.of(house), false).mood;
    }

    static int bests(Office o) {
        int sum = 0;
        for (int h = 0; h < o.houses; h++) {
            sum += best(o, h);
        }
        return sum;
    }

    static long[] fraction(long n, long d) {
        long g = BigInteger.valueOf(n).gcd(BigInteger.valueOf(d)).longValueExact();
        return new long[] {n / g, d / g};
    }

    static long[] mean(Office o, int house) {
        long[] sum = {0, 0};
        orders(o.of(house), new ArrayList<>(), row -> {
            sum[0] += moodBy(o, house, row);
            sum[1]++;
        });
        return fraction(sum[0], sum[1]);
    }

    static List<List<Integer>> subsets(List<Integer> of) {
        List<List<Integer>> all = new ArrayList<>();
        for (int bits = 0; bits < 1 << of.size(); bits++) {
            List<Integer> set = new ArrayList<>();
            for (int i = 0; i < of.size(); i++) {
                if ((bits >> i & 1) == 1) {
                    set.add(of.get(i));
                }
            }
            all.add(set);
        }
        return all;
    }

    static long[] spared(Office o, int house, int p, int m) {
        List<Integer> of = o.of(house);
        BigInteger sum = BigInteger.ZERO;
        for (List<Integer> come : subsets(of)) {
            if (moodBy(o, house, come) >= m) {
                sum = sum.add(BigInteger.valueOf(10 - p).pow(come.size())
                    .multiply(BigInteger.valueOf(p).pow(of.size() - come.size())));
            }
        }
        return fraction(sum.longValueExact(), BigInteger.TEN.pow(of.size()).longValueExact());
    }

    // ---- racks

    static List<int[]> rounds(Office o, int n) {
        List<int[]> all = new ArrayList<>();
        int[] now = new int[o.size()];
        for (int l = 0; l < o.size(); l++) {
            now[l] = o.kind(l);
        }
        all.add(now);
        for (int i = 0; i < n; i++) {
            int[] next = now.clone();
            for (Map.Entry<Integer, int[]> e : o.minds.entrySet()) {
                next[e.getKey()] = (now[e.getValue()[0]] + e.getValue()[1]) % 4;
            }
            now = next;
            all.add(now);
        }
        return all;
    }

    static int settled(List<int[]> all) {
        for (int i = 0; i + 1 < all.size(); i++) {
            if (Arrays.equals(all.get(i), all.get(i + 1))) {
                return i;
            }
        }
        return -1;
    }

    static int again(List<int[]> all) {
        for (int p = 1; 100 + p < all.size(); p++) {
            if (Arrays.equals(all.get(100), all.get(100 + p))) {
                return p;
            }
        }
        return -1;
    }

    static int blind(Office o, List<int[]> all) {
        int bits = 0;
        for (int l = 0; l < o.size(); l++) {
            for (int i = 100; i < all.size(); i++) {
                bits |= all.get(i)[l] != all.get(100)[l] ? 1 << l : 0;
            }
        }
        return bits;
    }

    static int loose(Office o) {
        int loose = (1 << o.size()) - 1;
        for (int bits = 0; bits < 1 << o.size(); bits++) {
            Office free = o.copy();
            for (int l = 0; l < o.size(); l++) {
                if ((bits >> l & 1) == 1) {
                    free.minds.remove(l);
                }
            }
            if (Integer.bitCount(bits) < Integer.bitCount(loose) && settled(rounds(free, 20)) >= 0) {
                loose = bits;
            }
        }
        return loose;
    }

    static int follow(Office o, Set<Integer> seen, int l) {
        if (l < 0 || !seen.add(l)) {
            return seen.size();
        }
        return follow(o, seen, o.minds.containsKey(l) ? o.minds.get(l)[0] : -1);
    }

    static int follow(Office o) {
        int most = 0;
        for (int l = 0; l < o.size(); l++) {
            most = Math.max(most, follow(o, new HashSet<>(), l));
        }
        return most;
    }

    // ---- days and sorters

    /** The days of letters, the first row by numbers with the fewest days; null if there is none. */
    static int[] bags(Office o, int force, int n) {
        for (int days = 0; days <= o.size(); days++) {
            int[] row = new int[o.size()];
            if (fill(o, row, 0, days, force, n)) {
                return row;
            }
        }
        return null;
    }

    private static boolean fill(Office o, int[] row, int at, int days, int force, int n) {
        if (at == row.length) {
            return true;
        }
        for (int d = 0; d < days; d++) {
            row[at] = d;
            int count = 0;
            int load = 0;
            for (int l = 0; l <= at; l++) {
                count += row[l] == d ? 1 : 0;
                load += row[l] == d && o.house(l) == o.house(at) ? o.letters.get(l)[2] : 0;
            }
            if (count <= n && load <= force && fill(o, row, at + 1, days, force, n)) {
                return true;
            }
        }
        return false;
    }

    static int lead(Office o, int from, int to, int sign) {
        if (from > to) {
            return 0;
        }
        int a = sign * o.plain(from) + lead(o, from + 1, to, -sign);
        int b = sign * o.plain(to) + lead(o, from, to - 1, -sign);
        return sign > 0 ? Math.max(a, b) : Math.min(a, b);
    }

    // ---- logs

    /** Slips that fit, by numbers, with the moods they lead to. */
    static TreeMap<Integer, int[]> fits(Office o, List<int[]> facts) {
        TreeMap<Integer, int[]> fit = new TreeMap<>();
        for (int l = -1; l < o.size(); l++) {
            for (int h = 0; h < o.houses; h++) {
                if (l >= 0 && o.house(l) == h) {
                    continue;
                }
                State s = new State(o);
                for (int i = 0; i < o.size(); i++) {
                    s.come(i, i == l ? h : o.house(i));
                }
                if (facts.stream().allMatch(f -> s.moods[f[0]] == f[1])) {
                    fit.put(l < 0 ? 99 : 10 * h + l, s.moods);
                }
            }
        }
        return fit;
    }

    static int ask(Office o, TreeMap<Integer, int[]> fit) {
        int asked = -1;
        int least = Integer.MAX_VALUE;
        for (int h = 0; h < o.houses && !fit.isEmpty(); h++) {
            Map<Integer, Integer> groups = new HashMap<>();
            for (int[] moods : fit.values()) {
                groups.merge(moods[h], 1, Integer::sum);
            }
            int most = groups.values().stream().max(Integer::compare).get();
            if (most < least) {
                least = most;
                asked = h;
            }
        }
        return asked;
    }

    static int sure(TreeMap<Integer, int[]> fit, boolean house) {
        Set<Integer> all = new HashSet<>();
        for (int code : fit.keySet()) {
            all.add(code == 99 ? -1 : house ? code / 10 : code % 10);
        }
        return all.size() == 1 ? all.iterator().next() : -1;
    }

    // ---- the rest

    static int dear(Office o, int l) {
        List<Integer> of = o.of(o.house(l));
        int with = best(o, o.house(l), of, false).mood;
        of.remove(Integer.valueOf(l));
        return with - best(o, o.house(l), of, false).mood;
    }

    static int lowest(Office o, int house, List<Integer> row) {
        int low = o.moods[house];
        for (int i = 1; i <= row.size(); i++) {
            low = Math.min(low, moodBy(o, house, row.subList(0, i)));
        }
        return low;
    }

    static int calm(Office o, int house, int mood) {
        int found = -1;
        List<Integer> of = o.of(house);
        for (List<Integer> gone : subsets(of)) {
            List<Integer> come = new ArrayList<>(of);
            come.removeAll(gone);
            int bits = gone.stream().mapToInt(l -> 1 << l).sum();
            boolean less = found < 0 || gone.size() < Integer.bitCount(found)
                || gone.size() == Integer.bitCount(found) && bits < found;
            if (less && lowest(o, house, come) >= mood) {
                found = bits;
            }
        }
        return found;
    }

    static long[] hoped(Office o, int n) {
        List<Integer> all = new ArrayList<>();
        for (int l = 0; l < o.size(); l++) {
            all.add(l);
        }
        long sum = 0;
        long sets = 0;
        for (List<Integer> set : subsets(all)) {
            if (set.size() == n) {
                State s = new State(o);
                set.forEach(l -> s.come(l, o.house(l)));
                sum += s.answer(4);
                sets++;
            }
        }
        return fraction(sum, sets);
    }

    static int[] strongest(Office o) {
        int[] found = {-1, -1};
        for (int law : o.laws.keySet()) {
            Office less = o.copy();
            less.laws.remove(law);
            int much = Math.abs(bests(less) - bests(o));
            if (much > found[1]) {
                found = new int[] {100 + law, much};
            }
        }
        return found;
    }

    static int[] swapped(Office o) {
        int[] found = {-1, bests(o)};
        for (int a = 0; a < o.size(); a++) {
            for (int b = a + 1; b < o.size(); b++) {
                Office other = o.copy();
                other.letters.get(a)[0] = o.house(b);
                other.letters.get(b)[0] = o.house(a);
                int much = bests(other);
                if (much > found[1]) {
                    found = new int[] {10 * a + b, much};
                }
            }
        }
        return found;
    }

    static long[] strike(Office o, int k) {
        long good = 0;
        long all = 0;
        int ways = (int) Math.pow(o.houses, k);
        for (int set = 0; set < 1 << o.size(); set++) {
            if (Integer.bitCount(set) != k) {
                continue;
            }
            for (int way = 0; way < ways; way++) {
                State s = new State(o);
                int rest = way;
                for (int l = 0; l < o.size(); l++) {
                    boolean struck = (set >> l & 1) == 1;
                    s.come(l, struck ? rest % o.houses : o.house(l));
                    rest = struck ? rest / o.houses : rest;
                }
                boolean fine = true;
                for (int h = 0; h < o.houses; h++) {
                    fine &= s.moods[h] >= o.moods[h];
                }
                good += fine ? 1 : 0;
                all++;
            }
        }
        return fraction(good, all);
    }

    static int ruled(Office o) {
        int couples = 0;
        for (int a = 0; a < o.size(); a++) {
            for (int b = a + 1; b < o.size(); b++) {
                couples += o.house(a) == o.house(b) && o.laws.containsKey(4 * o.kind(a) + o.kind(b)) ? 1 : 0;
            }
        }
        return couples;
    }

    static List<Integer> ranked(Office o) {
        List<Integer> houses = new ArrayList<>();
        for (int h = 0; h < o.houses; h++) {
            houses.add(h);
        }
        houses.sort((a, b) -> best(o, b) - best(o, a));
        return houses;
    }

    static int touched(Office o) {
        int n = 0;
        for (int h = 0; h < o.houses; h++) {
            n += !best(o, h, o.of(h), false).mood.equals(best(o, h, o.of(h), true).mood) ? 1 : 0;
        }
        return n;
    }
}

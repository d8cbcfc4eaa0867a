import java.util.List;
import java.util.Random;
import java.util.TreeMap;

/** Offices, weeks, logs made by chance (always the same ones): each answer against the model's. */
public final class ModelTest {
    private static final String[] WORDS = {"houses", "mood", "letter", "law", "minds", "give", "slip", "burn",
        "night", "joy", "blow", "money", "nothing", ";", "7", "10", "100", "05", "x", "joyx", "z", "{", "`", "/", ":", "A", "-", "\t"};

    private final Random random = new Random(20261118);

    public static void main(String[] args) {
        ModelTest t = new ModelTest();
        for (int i = 0; i < 4000; i++) {
            t.tryText(i % 3);
        }
        for (int i = 0; i < 280; i++) {
            t.tryOffice(i % 8);
        }
        for (int i = 0; i < 5; i++) {
            t.tryOffice(8);
        }
        for (int i = 0; i < 12; i++) {
            t.tryOffice(9 + i % 2);
        }
        for (int i = 0; i < 60; i++) {
            t.tryRacks();
        }
        Check.finish();
    }

    private int below(int n) {
        return random.nextInt(n);
    }

    private String kind() {
        return Model.KINDS.get(below(4));
    }

    // ---- texts with faults

    private String blanks(boolean need) {
        int n = below(6) == 0 ? below(3) : 0;
        StringBuilder s = new StringBuilder(need ? " " : "");
        for (int i = 0; i < n; i++) {
            s.append(random.nextBoolean() ? ' ' : '\n');
        }
        return s.toString();
    }

    private String line(int sort, int wide) {
        String gap = blanks(true);
        String end = blanks(false) + ";" + blanks(false);
        if (sort == 2) {
            return "mood" + gap + below(6 + wide) + " " + below(97 + wide) + end;
        }
        if (sort == 1) {
            return switch (below(4)) {
                case 0 -> "give" + gap + below(8 + wide) + end;
                case 1 -> "slip" + gap + below(8 + wide) + " " + below(5 + wide) + end;
                case 2 -> "burn" + gap + below(8 + wide) + end;
                default -> "night" + end;
            };
        }
        return switch (below(8)) {
            case 0 -> "houses" + gap + (1 + below(5 + wide)) + end;
            case 1 -> "mood" + gap + below(4 + wide) + " " + below(48 + wide) + end;
            case 2, 3, 4 -> "letter" + gap + below(3 + wide) + gap + kind() + " " + (1 + below(8 + wide)) + end;
            case 5, 6 -> "law " + kind() + gap + kind() + blanks(random.nextBoolean()) + below(9 + wide) + end;
            default -> "minds" + gap + below(4 + wide) + " " + below(8 + wide) + gap + below(3 + wide) + end;
        };
    }

    private String wildText(int sort) {
        StringBuilder s = new StringBuilder();
        int lines = below(4) == 0 ? below(45) : below(14);
        int wide = below(4);
        for (int i = 0; i < lines; i++) {
            s.append(line(sort, wide));
        }
        int spoils = below(3) == 0 ? 1 + below(2) : 0;
        for (int i = 0; i < spoils; i++) {
            int at = below(s.length() + 1);
            if (below(3) == 0) {
                s.insert(at, WORDS[below(WORDS.length)]);
            } else if (below(2) == 0) {
                s.setLength(at);
            } else if (at < s.length()) {
                s.deleteCharAt(at);
            }
        }
        if (s.length() > 600) {
            s.setLength(600);
        }
        return s.toString();
    }

    private void tryText(int sort) {
        String text = wildText(sort);
        SortedOffice x = new SortedOffice();
        Model.Text t = Model.read(sort, text);
        String call = "sort " + sort + ": " + text;
        Check.due("text of " + call, Check.tell(x, sort, -1, text), t.fault == 0 ? 0 : -1);
        Check.due("fault of " + call, x.fault(0), t.fault);
        Check.due("place of " + call, x.fault(1), t.place);
        Check.due("count of " + call, x.count(sort), t.fault == 0 ? 1 : 0);
        Check.due("tape behind " + call, x.end(1), -1);
        if (t.fault != 0) {
            return;
        }
        if (sort == 0) {
            compareOffice(x, t.office, call);
        } else {
            List<int[]> all = sort == 1 ? t.deeds : t.facts;
            int most = sort == 1 ? 3 : 2;
            Check.due("how many of " + call, sort == 1 ? x.deed(0, -1, 0) : x.fact(0, -1, 0), all.size());
            for (int k = 0; k < all.size(); k++) {
                for (int w = 0; w < most; w++) {
                    Check.due(k + ", " + w + " of " + call, sort == 1 ? x.deed(0, k, w) : x.fact(0, k, w),
                        all.get(k)[w]);
                }
            }
        }
    }

    private void compareOffice(SortedOffice x, Model.Office o, String call) {
        for (int what = -3; what < 130; what++) {
            Check.due("office " + what + " of " + call, x.office(0, what), officeAnswer(o, what));
        }
    }

    private static int officeAnswer(Model.Office o, int what) {
        int at = what % 10;
        if (what >= 100 && what < 116) {
            return o.laws.getOrDefault(what - 100, -1);
        }
        if (what >= 0 && what < 3) {
            return what == 0 ? o.houses : what == 1 ? o.size() : o.laws.size();
        }
        if (what >= 10 && what < 20) {
            return at < o.houses ? o.moods[at] : -2;
        }
        if (what < 20 || what >= 70 || at >= o.size()) {
            return -2;
        }
        if (what < 50) {
            return o.letters.get(at)[what / 10 - 2];
        }
        return o.minds.containsKey(at) ? o.minds.get(at)[what / 10 - 5] : -1;
    }

    // ---- what is known of an office

    private String officeText(int letters) {
        int houses = letters > 8 ? 4 + below(3) : 1 + below(letters > 6 ? 6 : 4);
        // trying all orders is slow: many letters are for many houses, but for some offices of eight
        int used = letters == 8 ? 1 + below(2) : houses;
        StringBuilder s = new StringBuilder("houses " + houses + ";");
        for (int i = below(4); i > 0; i--) {
            s.append("mood " + below(houses) + " " + below(below(2) == 0 ? 51 : 14) + ";");
        }
        for (int i = 0; i < letters; i++) {
            s.append("letter " + below(Math.min(used, houses)) + " " + kind() + " " + (1 + below(9)) + ";");
        }
        for (int i = below(12); i > 0; i--) {
            String law = "law " + kind() + " " + kind() + " " + below(below(2) == 0 ? 3 : 10) + ";";
            if (Model.read(0, s + law).fault == 0) {
                s.append(law);
            }
        }
        return s + minds(letters);
    }

    private String minds(int letters) {
        StringBuilder s = new StringBuilder();
        int many = letters < 2 ? 0 : below(letters + 1);
        for (int i = 0; i < many; i++) {
            int one = below(letters);
            int other = (one + 1 + below(letters - 1)) % letters;
            s.append("minds " + one + " " + other + " " + (below(2) == 0 ? 0 : below(4)) + ";");
        }
        return s.toString();
    }

    private void tryOffice(int letters) {
        String text = officeText(letters);
        SortedOffice x = Check.with(text);
        Model.Office o = Model.read(0, text).office;
        for (int l = 0; l < letters; l++) {
            for (int ahead = -1; ahead < 4; ahead++) {
                Check.due("doing " + l + ", " + ahead + " of " + text, x.doing(0, l, ahead), o.does(l, ahead));
            }
            Check.due("dear " + l + " of " + text, x.dear(0, l), Model.dear(o, l));
        }
        for (int h = 0; h < o.houses; h++) {
            tryHouse(x, o, h, text);
        }
        tryWhole(x, o, text);
        tryDays(x, o, text);
        tryWeek(x, o, text);
        tryLog(x, o, text);
        compareRacks(x, o, text);
    }

    private void tryHouse(SortedOffice x, Model.Office o, int h, String text) {
        String call = "house " + h + " of " + text;
        for (int w = 0; w < 2; w++) {
            Model.Best best = Model.best(o, h, o.of(h), w == 1);
            Check.due("order of " + call, x.order(0, h, w == 1, -1), best.mood);
            for (int k = 0; k <= best.row.size(); k++) {
                int due = k < best.row.size() ? best.row.get(k) : -1000;
                Check.due("order " + w + ", " + k + " of " + call, x.order(0, h, w == 1, k), due);
            }
        }
        due("mean of " + call, x.mean(0, h, false), x.mean(0, h, true), Model.mean(o, h));
        for (int i = 0; i < 6; i++) {
            int p = below(11);
            int m = below(100);
            due("spared " + p + ", " + m + " of " + call, x.spared(0, h, p, m, false), x.spared(0, h, p, m, true),
                Model.spared(o, h, p, m));
            int mood = below(30);
            int calm = Model.calm(o, h, mood);
            Check.due("calm " + mood + " of " + call, x.calm(0, h, mood, true), calm);
            Check.due("calm " + mood + " of " + call, x.calm(0, h, mood, false),
                calm < 0 ? -1 : Integer.bitCount(calm));
        }
        Check.due("spoilt of " + call, x.spoilt(0, h, false), Model.best(o, h) - Model.moodBy(o, h, o.of(h)));
        Check.due("lowest of " + call, x.spoilt(0, h, true), Model.lowest(o, h, o.of(h)));
        Check.due("ranked " + call, x.ruled(0, 10 + h), Model.ranked(o).get(h));
    }

    private static void due(String call, long above, long under, long[] want) {
        Check.due(call, above, want[0]);
        Check.due(call + " (under)", under, want[1]);
    }

    private void tryWhole(SortedOffice x, Model.Office o, String text) {
        for (int n = 0; n <= o.size(); n++) {
            due("hoped " + n + " of " + text, x.hoped(0, n, false), x.hoped(0, n, true), Model.hoped(o, n));
        }
        for (int k = 0; k <= Math.min(3, o.size()); k++) {
            due("strike " + k + " of " + text, x.strike(0, k, false), x.strike(0, k, true), Model.strike(o, k));
        }
        int[] strongest = Model.strongest(o);
        Check.due("strongest of " + text, x.strongest(0, false), strongest[0]);
        Check.due("strongest (much) of " + text, x.strongest(0, true), strongest[1]);
        int[] swapped = Model.swapped(o);
        Check.due("swapped of " + text, x.swapped(0, false), swapped[0]);
        Check.due("swapped (much) of " + text, x.swapped(0, true), swapped[1]);
        Check.due("ruled of " + text, x.ruled(0, 0), Model.ruled(o));
        Check.due("touched of " + text, x.ruled(0, 3), Model.touched(o));
        Check.due("ranked behind the last of " + text, x.ruled(0, 10 + o.houses), -1);
    }

    private void tryDays(SortedOffice x, Model.Office o, String text) {
        for (int i = 0; i < 3; i++) {
            int force = 1 + below(25);
            int n = 1 + below(4);
            int[] row = Model.bags(o, force, n);
            String call = "bags " + force + ", " + n + ", ";
            int days = 0;
            for (int l = 0; l < o.size(); l++) {
                Check.due(call + l + " of " + text, x.bags(0, force, n, l), row == null ? -1 : row[l]);
                days = row == null ? -1 : Math.max(days, row[l] + 1);
            }
            Check.due(call + "-1 of " + text, x.bags(0, force, n, -1), days);
        }
        int last = o.size() - 1;
        Check.due("sorters of " + text, x.sorters(0, false), Model.lead(o, 0, last, 1));
        int first = -1;
        if (last >= 0) {
            int byFirst = o.plain(0) + Model.lead(o, 1, last, -1);
            first = byFirst == Model.lead(o, 0, last, 1) ? 0 : 1;
        }
        Check.due("sorters (first) of " + text, x.sorters(0, true), first);
    }

    private void tryWeek(SortedOffice x, Model.Office o, String text) {
        StringBuilder s = new StringBuilder();
        for (int i = below(14); i > 0; i--) {
            String line = switch (below(5)) {
                case 0, 1 -> "give " + below(o.size() + 1 > 10 ? 10 : o.size() + 1) + ";";
                case 2 -> "slip " + below(Math.max(1, o.size())) + " " + below(o.houses) + ";";
                case 3 -> "burn " + below(Math.max(1, o.size())) + ";";
                default -> "night;";
            };
            List<int[]> deeds = Model.read(1, s + line).deeds;
            if (below(8) == 0 || Model.end(o, deeds) == deeds.size()) {
                s.append(line);
            }
        }
        Check.due("text of " + s, Check.tell(x, 1, -1, s.toString()), 0);
        List<int[]> deeds = Model.read(1, s.toString()).deeds;
        String call = s + " in " + text;
        int end = Model.end(o, deeds);
        Check.due("till of " + call, x.till(0, 0), end);
        for (int n = -1; n <= deeds.size() + 1; n++) {
            for (int what = -1; what < 42; what++) {
                int due = n < 0 || n > end ? -1000 : Model.behind(o, deeds, n).answer(what);
                Check.due("state " + n + ", " + what + " of " + call, x.state(0, 0, n, what), due);
            }
        }
        for (int what = 0; what < 4; what++) {
            Check.due("after " + what + " of " + call, x.after(0, 0, what), Model.after(o, deeds, what));
        }
        int seed = random.nextInt();
        int n = below(61);
        for (int what = 0; what < 42; what++) {
            Check.due("drawn " + seed + ", " + n + ", " + what + " of " + text, x.drawn(0, seed, n, what),
                Model.drawn(o, seed, n).answer(what));
        }
    }

    /** The facts are of a slip's moods, so that something fits most often. */
    private void tryLog(SortedOffice x, Model.Office o, String text) {
        TreeMap<Integer, int[]> all = Model.fits(o, List.of());
        int[] moods = (int[]) all.values().toArray()[below(all.size())];
        StringBuilder s = new StringBuilder();
        for (int i = below(4); i > 0; i--) {
            int h = below(o.houses);
            int mood = below(9) == 0 ? below(30) : moods[h];
            if (mood >= 0 && mood <= 99) {
                s.append("mood " + h + " " + mood + ";");
            }
        }
        Check.due("text of " + s, Check.tell(x, 2, -1, s.toString()), 0);
        TreeMap<Integer, int[]> fit = Model.fits(o, Model.read(2, s.toString()).facts);
        String call = s + " in " + text;
        Check.due("fits of " + call, x.fits(0, 0, 0), fit.size());
        Check.due("sure letter of " + call, x.fits(0, 0, 1), Model.sure(fit, false));
        Check.due("sure house of " + call, x.fits(0, 0, 2), Model.sure(fit, true));
        Check.due("ask of " + call, x.fits(0, 0, 3), Model.ask(o, fit));
        int k = 0;
        for (int code : fit.keySet()) {
            Check.due("fits " + k + " of " + call, x.fits(0, 0, 10 + k), code);
            for (int h = 0; h < o.houses; h++) {
                Check.due("then " + k + ", " + h + " of " + call, x.then(0, 0, k, h), fit.get(code)[h]);
            }
            k++;
        }
        Check.due("fits behind the last of " + call, x.fits(0, 0, 10 + k), -2);
        Check.due("then behind the last of " + call, x.then(0, 0, k, 0), -1000);
    }

    // ---- racks

    private void compareRacks(SortedOffice x, Model.Office o, String text) {
        List<int[]> all = Model.rounds(o, 999);
        for (int l = 0; l < o.size(); l++) {
            for (int n : new int[] {0, 1, 2, 3, 9, 10, 11, below(1000), 999}) {
                Check.due("rack " + l + ", " + n + " of " + text, x.rack(0, l, n), all.get(n)[l]);
            }
        }
        Check.due("settled of " + text, x.settled(0, 0), Model.settled(all));
        Check.due("again of " + text, x.settled(0, 1), Model.again(all));
        Check.due("blind of " + text, x.settled(0, 2), Model.blind(o, all));
        Check.due("follow of " + text, x.ruled(0, 1), Model.follow(o));
        Check.due("loose of " + text, x.ruled(0, 2), Model.loose(o));
    }

    private void tryRacks() {
        StringBuilder s = new StringBuilder();
        for (int l = 0; l < 10; l++) {
            s.append("letter 0 " + kind() + " 1;");
        }
        for (int l = 0; l < 10; l++) {
            if (below(12) > 0) {
                s.append("minds " + l + " " + (l + 1 + below(9)) % 10 + " " + below(4) + ";");
            }
        }
        SortedOffice x = Check.with(s.toString());
        compareRacks(x, Model.read(0, s.toString()).office, s.toString());
    }
}

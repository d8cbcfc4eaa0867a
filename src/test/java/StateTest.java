import java.util.ArrayList;
import java.util.List;
import java.util.Random;

/** Runs made by chance (always the same ones) of the calls that change what is told, against the model's. */
public final class StateTest {
    private static final String[][] TEXTS = {
        {"houses 4;", "letter 0 joy 4;letter 1 blow 2;", "law joy joy 3;", "houses 7;", "mood 5 1;", "", "mood 1 7;"},
        {"night;", "give 0;slip 1 2;night;", "burn 10;", "give;", "", "night night;", "slip 1 2;"},
        {"mood 0 10;", "mood 1 99;mood 5 0;", "mood 6 1;", "mood 0 100;", "", "?", "mood 1 7;"}};
    /** Twenty calls a step, and the feeds that fill the tape once: an object is good for 512 calls. */
    private static final int STEPS = 22;

    private final Random random = new Random(33);
    private SortedOffice x;
    private Told told;
    private Told[] images;
    private String run;
    private int sort;
    private boolean filled;

    /** What an image keeps. */
    private static final class Told {
        String tape = "";
        int fault = 0;
        int place = -1;
        List<List<Model.Text>> texts = List.of(new ArrayList<>(), new ArrayList<>(), new ArrayList<>());

        Told copy() {
            Told t = new Told();
            t.tape = tape;
            t.fault = fault;
            t.place = place;
            for (int sort = 0; sort < 3; sort++) {
                t.texts.get(sort).addAll(texts.get(sort));
            }
            return t;
        }
    }

    public static void main(String[] args) {
        StateTest t = new StateTest();
        for (int i = 0; i < 4000; i++) {
            t.tryRun();
        }
        Check.finish();
    }

    private void tryRun() {
        x = new SortedOffice();
        told = new Told();
        images = new Told[3];
        run = "";
        filled = false;
        for (int i = 0; i < STEPS; i++) {
            step();
            compare();
        }
    }

    private void step() {
        switch (random.nextInt(9)) {
            case 0, 1, 2 -> {
                sort = random.nextInt(3);
                feed(TEXTS[sort][random.nextInt(TEXTS[sort].length)]);
            }
            case 3, 4 -> text(sort, random.nextInt(3) - 1);
            case 5 -> text(random.nextInt(6) - 2, random.nextInt(6) - 2);
            case 6 -> end(random.nextInt(told.tape.length() + 3) - 1);
            case 7 -> image(random.nextInt(5) - 1);
            default -> again(random.nextInt(5) - 1);
        }
    }

    private void due(String call, int got, int want) {
        Check.due(run + call, got, want);
    }

    /** Feeds a text's first twenty bytes, blanks behind it; once in a while so often that the tape is full. */
    private void feed(String text) {
        StringBuilder s = new StringBuilder(text);
        while (s.length() < 20) {
            s.append(random.nextBoolean() ? ' ' : '\n');
        }
        int[] five = new int[5];
        for (int i = 0; i < 20; i++) {
            five[i / 4] = five[i / 4] << 8 | s.charAt(i);
        }
        int times = !filled && random.nextInt(20) == 0 ? 31 : 1;
        filled |= times > 1;
        for (int i = 0; i < times; i++) {
            boolean room = told.tape.length() + 20 <= 600;
            told.tape += room ? s.substring(0, 20) : "";
            due("feed", x.feed(five[0], five[1], five[2], five[3], five[4]), room ? told.tape.length() : -1);
        }
        run += times + " feeds " + s.substring(0, 20) + ", ";
    }

    private void end(int n) {
        boolean can = n >= 0 && n <= told.tape.length();
        due("end " + n, x.end(n), can ? n : -1);
        told.tape = can ? told.tape.substring(0, n) : told.tape;
        run += "end " + n + ", ";
    }

    private void text(int sort, int at) {
        String tape = told.tape;
        told.tape = "";
        told.fault = 0;
        told.place = -1;
        int want = -2;
        if (sort >= 0 && sort < 3) {
            List<Model.Text> all = told.texts.get(sort);
            if (at == -1 ? all.size() < 2 : at >= 0 && at < all.size()) {
                want = take(Model.read(sort, tape), all, at);
            }
        }
        due("text " + sort + " " + at, x.text(sort, at), want);
        run += "text " + sort + " " + at + ", ";
    }

    private int take(Model.Text t, List<Model.Text> all, int at) {
        told.fault = t.fault;
        told.place = t.place;
        if (t.fault != 0) {
            return -1;
        }
        if (at == -1) {
            all.add(t);
            return all.size() - 1;
        }
        all.set(at, t);
        return at;
    }

    private void image(int k) {
        boolean can = k >= 0 && k < 3;
        Check.due(run + "image " + k, x.image(k), can);
        if (can) {
            images[k] = told.copy();
        }
        run += "image " + k + ", ";
    }

    private void again(int k) {
        boolean can = k >= 0 && k < 3 && images[k] != null;
        Check.due(run + "again " + k, x.again(k), can);
        told = can ? images[k].copy() : told;
        run += "again " + k + ", ";
    }

    private void compare() {
        due("fault", x.fault(0), told.fault);
        due("place", x.fault(1), told.place);
        due("longer than the tape", x.end(told.tape.length() + 1), -1);
        due("as long as the tape", x.end(told.tape.length()), told.tape.length());
        for (int sort = 0; sort < 3; sort++) {
            due("count " + sort, x.count(sort), told.texts.get(sort).size());
        }
        for (int at = 0; at < 2; at++) {
            Model.Text office = told.texts.get(0).size() > at ? told.texts.get(0).get(at) : null;
            Model.Text week = told.texts.get(1).size() > at ? told.texts.get(1).get(at) : null;
            Model.Text log = told.texts.get(2).size() > at ? told.texts.get(2).get(at) : null;
            due("houses", x.office(at, 0), office == null ? -2 : office.office.houses);
            due("letters", x.office(at, 1), office == null ? -2 : office.office.size());
            due("laws", x.office(at, 2), office == null ? -2 : office.office.laws.size());
            due("mood", x.office(at, 11), office == null ? -2 : office.office.moods[1]);
            due("deeds", x.deed(at, -1, 0), week == null ? -2 : week.deeds.size());
            due("facts", x.fact(at, -1, 0), log == null ? -2 : log.facts.size());
        }
    }
}

import java.io.IOException;
import java.lang.reflect.Method;
import java.lang.reflect.Modifier;
import java.nio.file.Files;
import java.nio.file.Path;
import java.util.List;
import java.util.stream.Stream;

/** README.md is as things stand: its example is the one below, and it names each call of the face and each test. */
public final class ReadmeTest {
    private static final Path HERE = Path.of("src/test/java/ReadmeTest.java");
    private static final String BEGIN = "    // the example begins\n";
    private static final String END = "    // the example ends\n";

    public static void main(String[] args) throws IOException {
        String readme = Files.readString(Path.of("README.md"));
        String source = Files.readString(HERE);
        String example = source.substring(source.lastIndexOf(BEGIN) + BEGIN.length(), source.lastIndexOf(END));
        Check.due("README.md has the example", readme.contains("```java\n" + example.replaceAll("(?m)^ {4}", "") + "```"),
            true);
        answersAreAsToldBeside(example);
        callsAreNamed(readme);
        testsAreNamed(readme);
        Check.finish();
    }

    /** The comment behind a row of the example begins with its answer. */
    private static void answersAreAsToldBeside(String example) {
        List<String> rows = example.lines().filter(row -> row.contains(", // ")).toList();
        long[] answers = answers();
        Check.due("rows", rows.size(), answers.length);
        for (int i = 0; i < Math.min(rows.size(), answers.length); i++) {
            String told = rows.get(i).split(", // ")[1].split(":")[0];
            Check.due(rows.get(i).trim(), answers[i], Long.parseLong(told));
        }
    }

    private static void callsAreNamed(String readme) {
        for (Method m : SortedOffice.class.getDeclaredMethods()) {
            if (Modifier.isPublic(m.getModifiers())) {
                Check.due("README.md names " + m.getName(), readme.contains("`" + m.getName() + "`"), true);
            }
        }
    }

    private static void testsAreNamed(String readme) throws IOException {
        try (Stream<Path> files = Files.list(HERE.getParent())) {
            for (Path file : files.toList()) {
                String name = file.getFileName().toString().replace(".java", "");
                Check.due("README.md names " + name, readme.contains("`" + name + "`"), true);
            }
        }
    }

    // the example begins
    /** Puts a text on the tape, and takes it as a further one of a sort: its number, or NONE (a FAULT), or -2. */
    static int tell(SortedOffice x, int sort, String text) {
        for (int at = 0; at < text.length(); at += 20) {
            int[] five = new int[5];
            for (int i = 0; i < 20; i++) {
                int sign = at + i < text.length() ? text.charAt(at + i) : ' ';
                five[i / 4] = five[i / 4] << 8 | sign;
            }
            x.feed(five[0], five[1], five[2], five[3], five[4]);
        }
        x.end(text.length());
        return x.text(sort, SortedOffice.NONE);
    }

    static long[] answers() {
        SortedOffice x = new SortedOffice();
        int office = tell(x, 0, "houses 2;letter 0 joy 4;letter 0 blow 2;letter 1 money 5;law blow joy 3;");
        int week = tell(x, 1, "give 1;give 0;slip 2 0;night;");
        int log = tell(x, 2, "mood 0 8;");
        return new long[] {
            x.order(office, 0, false, SortedOffice.NONE), // 20: the MOOD of HOUSE 0 at BEST
            x.order(office, 0, false, 0), // 1: LETTER 1 comes first then
            x.spared(office, 0, 3, 13, false), // 21: if LETTERS are lost by 3 of ten, a MOOD of 13 or more is ..
            x.spared(office, 0, 3, 13, true), // 100: .. as likely as 21 of 100
            x.till(office, week), // 4: all DEEDS can be
            x.state(office, week, 4, 10), // 21: the MOOD of HOUSE 0 behind them
            x.fits(office, log, 0), // 1: one slip leads to what the LOG tells
            x.fits(office, log, 10), // 10: LETTER 0, to HOUSE 1
            x.order(office, 2, false, 0), // -1000: there is no HOUSE 2
            tell(x, 0, "houses 7;"), // -1: there is a FAULT
            x.fault(0), // 2: a NUMBER that can't be
            x.fault(1), // 7: its first byte
        };
    }
    // the example ends
}

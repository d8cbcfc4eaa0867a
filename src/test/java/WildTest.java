import java.lang.reflect.InvocationTargetException;
import java.lang.reflect.Method;
import java.util.Arrays;
import java.util.Comparator;
import java.util.Random;
import java.util.Set;

/** Calls of all kinds with wild arguments, in all kinds of states: none throws, and asking changes nothing. */
public final class WildTest {
    private static final int[] EDGES = {Integer.MIN_VALUE, Integer.MIN_VALUE + 9, -1000, -2, -1, 0, 0, 0, 1, 1, 2, 3, 5,
        6, 9, 10, 11, 12, 15, 20, 29, 35, 40, 50, 60, 69, 99, 100, 115, 116, 600, 999, 1000,
        Integer.MAX_VALUE - 9, Integer.MAX_VALUE};
    private static final String[] TEXTS = {
        "houses 6;" + "letter 0 joy 9;letter 0 blow 8;letter 0 money 7;letter 0 nothing 6;letter 0 joy 5;"
            + "letter 0 blow 4;letter 0 money 3;letter 0 joy 2;letter 0 blow 1;letter 5 joy 9;"
            + "law joy blow 9;law blow joy 3;law money blow 0;law blow blow 2;law joy joy 4;"
            + "minds 0 1 1;minds 1 2 0;minds 2 0 3;minds 3 4 2;minds 4 3 0;minds 9 8 1;",
        "", "houses 1;letter 0 joy 1;", "mood 0 8;mood 5 9;", "mood 0 0;", "night;night;give 0;slip 1 5;burn 2;give 9;",
        "give 0;give 0;", "rubbish", "houses 9;", "mood 5 5;"};

    private static final Set<String> CHANGES = Set.of("feed", "end", "text", "image", "again");

    public static void main(String[] args) throws IllegalAccessException {
        Method[] face = Arrays.stream(SortedOffice.class.getDeclaredMethods())
            .filter(m -> java.lang.reflect.Modifier.isPublic(m.getModifiers()))
            .sorted(Comparator.comparing(Method::getName)).toArray(Method[]::new);
        Random random = new Random(7);
        for (int run = 0; run < 120; run++) {
            SortedOffice x = new SortedOffice();
            for (int call = 0; call < 512; call++) {
                if (random.nextInt(12) == 0) {
                    Check.put(x, TEXTS[random.nextInt(TEXTS.length)]);
                    x.text(random.nextInt(3), random.nextInt(3) - 1);
                }
                tryCall(x, face[random.nextInt(face.length)], random);
            }
        }
        askingChangesNothing(face, random);
        askingInTurn(face, random);
        Check.finish();
    }

    private static Object[] wild(Method m, Random random) {
        Class<?>[] types = m.getParameterTypes();
        Object[] all = new Object[types.length];
        for (int i = 0; i < types.length; i++) {
            all[i] = types[i] == boolean.class ? (Object) random.nextBoolean()
                : (Object) (random.nextInt(20) == 0 ? random.nextInt() : i == 0 && random.nextInt(3) > 0
                    ? random.nextInt(2) : EDGES[random.nextInt(EDGES.length)]);
        }
        return all;
    }

    private static void tryCall(SortedOffice x, Method m, Random random) throws IllegalAccessException {
        Object[] all = wild(m, random);
        String thrown = null;
        try {
            m.invoke(x, all);
        } catch (InvocationTargetException e) {
            thrown = e.getCause().toString();
        }
        Check.due(m.getName() + Arrays.toString(all) + " threw " + thrown, thrown != null, false);
    }

    private static void askingChangesNothing(Method[] face, Random random) throws IllegalAccessException {
        SortedOffice x = Check.with(TEXTS[0], Check.WEEK, TEXTS[5]);
        Check.tell(x, Check.LOG, -1, TEXTS[4]);
        Check.tell(x, Check.LOG, -1, "mood;");
        Check.put(x, "night;");
        int[] before = print(x);
        for (Method m : face) {
            boolean changes = CHANGES.contains(m.getName());
            for (int i = 0; i < 40 && !changes; i++) {
                tryCall(x, m, random);
            }
            Check.due("asked " + m.getName(), Arrays.equals(before, print(x)), true);
        }
        Check.due("the tape", x.end(7) == -1 && x.end(6) == 6 && x.text(1, 0) == 0, true);
    }

    /** What was asked ahead leaves nothing behind: an object that was asked a lot answers like a new one. */
    private static void askingInTurn(Method[] face, Random random) throws IllegalAccessException {
        for (int run = 0; run < 100; run++) {
            Method[] ahead = new Method[100];
            Object[][] arguments = new Object[100][];
            for (int i = 0; i < 100; i++) {
                do {
                    ahead[i] = face[random.nextInt(face.length)];
                } while (CHANGES.contains(ahead[i].getName()));
                arguments[i] = near(ahead[i], random);
            }
            SortedOffice asked = twoOfEach();
            for (int i = 0; i < 100; i++) {
                Object got = answer(asked, ahead[i], arguments[i]);
                Object want = answer(twoOfEach(), ahead[i], arguments[i]);
                Check.due(ahead[i].getName() + Arrays.toString(arguments[i]) + " answered " + got + " in turn, alone "
                    + want, got.equals(want), true);
            }
        }
    }

    private static SortedOffice twoOfEach() {
        SortedOffice x = Check.with(TEXTS[0], Check.WEEK, TEXTS[5]);
        Check.tell(x, Check.LOG, -1, TEXTS[4]);
        Check.tell(x, Check.OFFICE, -1, "houses 2;mood 1 0;letter 0 joy 2;letter 0 blow 1;letter 1 joy 3;law joy blow 2;");
        Check.tell(x, Check.WEEK, -1, "give 1;give 0;");
        Check.tell(x, Check.LOG, -1, "");
        return x;
    }

    private static Object answer(SortedOffice x, Method m, Object[] all) throws IllegalAccessException {
        try {
            return m.invoke(x, all);
        } catch (InvocationTargetException e) {
            return e.getCause().toString();
        }
    }

    /** Arguments of which most are there. */
    private static Object[] near(Method m, Random random) {
        Class<?>[] types = m.getParameterTypes();
        Object[] all = new Object[types.length];
        for (int i = 0; i < types.length; i++) {
            all[i] = types[i] == boolean.class ? (Object) random.nextBoolean()
                : (Object) (i == 0 ? random.nextInt(2) : random.nextInt(4) == 0 ? random.nextInt(12) : random.nextInt(4) - 1);
        }
        return all;
    }

    private static int[] print(SortedOffice x) {
        int[] all = new int[200];
        for (int what = 0; what < 120; what++) {
            all[what] = x.office(0, what);
        }
        for (int k = 0; k < 18; k++) {
            all[120 + k] = x.deed(0, k / 3, k % 3);
            all[140 + k] = x.fact(0, k / 2, k % 2);
        }
        for (int k = 0; k < 3; k++) {
            all[160 + k] = x.count(k);
            all[170 + k] = x.fault(k);
        }
        return all;
    }
}

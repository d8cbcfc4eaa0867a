import java.io.IOException;
import java.lang.reflect.Array;
import java.lang.reflect.Constructor;
import java.lang.reflect.Field;
import java.lang.reflect.Method;
import java.lang.reflect.Modifier;
import java.nio.file.Files;
import java.nio.file.Path;
import java.util.Arrays;
import java.util.Collections;
import java.util.HashSet;
import java.util.IdentityHashMap;
import java.util.Set;
import java.util.TreeSet;
import java.util.regex.Matcher;
import java.util.regex.Pattern;

/** The face is the document's, and the source keeps to those rules of LANGUAGE.md that can be seen from its text. */
public final class RulesTest {
    private static final String[] FACE = {
        "int feed(int, int, int, int, int)", "int end(int)", "int text(int, int)", "int fault(int)",
        "int office(int, int)", "int doing(int, int, int)", "int deed(int, int, int)", "int till(int, int)",
        "int state(int, int, int, int)", "int order(int, int, boolean, int)", "long mean(int, int, boolean)",
        "long spared(int, int, int, int, boolean)", "int rack(int, int, int)", "int settled(int, int)",
        "int bags(int, int, int, int)", "int sorters(int, boolean)", "int fact(int, int, int)",
        "int fits(int, int, int)", "int drawn(int, int, int, int)", "int dear(int, int)",
        "int spoilt(int, int, boolean)", "int calm(int, int, int, boolean)", "long hoped(int, int, boolean)",
        "int strongest(int, boolean)", "int swapped(int, boolean)", "long strike(int, int, boolean)",
        "int ruled(int, int)", "int after(int, int, int)", "int then(int, int, int, int)", "int count(int)",
        "boolean image(int)", "boolean again(int)"};
    /** What may be called by a class of the library. */
    private static final String LIBRARY = "Arrays\\.(fill|copyOf|copyOfRange)|System\\.arraycopy|List\\.of"
        + "|(Math|Integer|Long)\\.[A-Za-z]+(?<!Exact)";
    /** The one object that is made behind the constructors: at most one for each image. */
    private static final String MADE_LATER = "images[k] = new Told();";
    private static final String[] FORBIDDEN = {"while (true)", "for (;;)", "static {",
        "throw", "throws", "try", "catch", "finally", "synchronized", "assert",
        "HashMap", "Random", "System.out", "Exception", "Object", "equals", "hashCode", "toString",
        "Exact", "->", "::", "native", "volatile", "transient", "package"};

    public static void main(String[] args) throws IOException, IllegalAccessException {
        face();
        room();
        source(Files.readString(Path.of("src/main/java/SortedOffice.java")));
        Check.finish();
    }

    private static void face() {
        Class<?> c = SortedOffice.class;
        Check.due("public and final", c.getModifiers(), Modifier.PUBLIC | Modifier.FINAL);
        Set<String> got = new TreeSet<>();
        Set<String> names = new HashSet<>();
        for (Method m : c.getDeclaredMethods()) {
            if (Modifier.isPublic(m.getModifiers())) {
                String types = Arrays.stream(m.getParameterTypes()).map(Class::getName).toList().toString();
                got.add(m.getReturnType() + " " + m.getName() + "(" + types.substring(1, types.length() - 1) + ")");
                names.add(m.getName());
            }
        }
        Check.due("the face " + got, got.equals(new TreeSet<>(Arrays.asList(FACE))), true);
        for (Method m : c.getDeclaredMethods()) {
            boolean fine = Modifier.isPublic(m.getModifiers())
                || Modifier.isPrivate(m.getModifiers()) && !names.contains(m.getName());
            Check.due("rule 1: " + m, fine, true);
        }
        fields(c);
        for (Field f : c.getDeclaredFields()) {
            boolean face = f.getName().equals("NONE") && Modifier.isPublic(f.getModifiers());
            Check.due("rule 1: " + f, face || Modifier.isPrivate(f.getModifiers()), true);
        }
        Constructor<?>[] made = c.getDeclaredConstructors();
        Check.due("one constructor", made.length == 1 && made[0].getParameterCount() == 0, true);
        Check.due("rule 11: classes", c.getDeclaredClasses().length + 1 <= 12, true);
        for (Class<?> inside : c.getDeclaredClasses()) {
            inside(inside, names);
        }
    }

    private static void inside(Class<?> inside, Set<String> names) {
        Check.due("rule 2: " + inside, Modifier.isStatic(inside.getModifiers()), true);
        Check.due("rule 1: " + inside, Modifier.isPublic(inside.getModifiers()), false);
        Check.due("rule 1: " + inside, Modifier.isProtected(inside.getModifiers()), false);
        fields(inside);
        for (Method m : inside.getDeclaredMethods()) {
            Check.due("rule 1: " + m, names.contains(m.getName()), false);
            Check.due("rule 11: parameters of " + m, m.getParameterCount() <= 7, true);
        }
    }

    private static void fields(Class<?> of) {
        int fields = 0;
        for (Field f : of.getDeclaredFields()) {
            Class<?> type = f.getType();
            Class<?> of1 = type.isArray() ? type.getComponentType() : type;
            if (Modifier.isStatic(f.getModifiers())) {
                Check.due("rule 5: " + f, Modifier.isFinal(f.getModifiers()), true);
                Check.due("rule 5: " + f, of1.isPrimitive() || of1 == String.class, true);
            } else {
                fields++;
                boolean own = of1.getName().startsWith("SortedOffice$");
                boolean list = of1 == java.util.ArrayList.class || of1 == java.util.List.class;
                boolean text = of1 == String.class || of1 == StringBuilder.class;
                Check.due("rule 3: " + f, own || list || text || of1.isPrimitive() || of1 == int[].class, true);
            }
        }
        Check.due("rule 11: fields of " + of, fields <= 20, true);
    }

    /** Six hundred objects with all their images find room among 7.3 million fields and elements. */
    private static void room() throws IllegalAccessException {
        SortedOffice x = new SortedOffice();
        for (int k = 0; k < 3; k++) {
            x.image(k);
        }
        Set<Object> made = Collections.newSetFromMap(new IdentityHashMap<>());
        int elements = elementsOf(x, made);
        Check.due("rule 12: " + made.size() + " objects", made.size() <= 250, true);
        Check.due("rule 12: " + elements + " fields and elements", elements <= 12000, true);
        for (int k = 0; k < 3; k++) {
            x.image(k);
            x.again(k);
        }
        Set<Object> later = Collections.newSetFromMap(new IdentityHashMap<>());
        elementsOf(x, later);
        Check.due("rule 12: images are used again", later.equals(made), true);
    }

    private static int elementsOf(Object of, Set<Object> seen) throws IllegalAccessException {
        if (of == null || !seen.add(of)) {
            return 0;
        }
        int elements = 0;
        if (of.getClass().isArray()) {
            elements = Array.getLength(of);
            for (int i = 0; i < Array.getLength(of) && !of.getClass().getComponentType().isPrimitive(); i++) {
                elements += elementsOf(Array.get(of, i), seen);
            }
            return elements;
        }
        for (Field f : of.getClass().getDeclaredFields()) {
            if (!Modifier.isStatic(f.getModifiers())) {
                f.setAccessible(true);
                elements += 1 + (f.getType().isPrimitive() ? 0 : elementsOf(f.get(of), seen));
            }
        }
        return elements;
    }

    private static void library(String code) {
        Matcher calls = Pattern.compile("\\b([A-Z][A-Za-z]*\\.[A-Za-z]+)\\(").matcher(code);
        while (calls.find()) {
            Check.due("rule 4: " + calls.group(1), calls.group(1).matches(LIBRARY), true);
        }
        for (String line : code.split("\n")) {
            if (line.contains("new ")) {
                boolean field = line.matches(" {4}( {4})?(private )?final .*;");
                Check.due("rule 12: " + line, field || line.trim().equals(MADE_LATER), true);
            }
            // texts are never joined
            Check.due("rule 10: " + line, line.matches(".*(\" *\\+|\\+ *\").*"), false);
        }
    }

    private static void source(String source) {
        String code = source.replaceAll("(?s)/\\*.*?\\*/", "").replaceAll("//[^\n]*", "");
        for (String word : FORBIDDEN) {
            String begin = Character.isLetter(word.charAt(0)) ? "\\b" : "";
            String end = Character.isLetter(word.charAt(word.length() - 1)) ? "\\b" : "";
            Pattern p = Pattern.compile(begin + Pattern.quote(word) + end);
            Check.due("forbidden: " + word, p.matcher(code).find(), false);
        }
        library(code);
        Matcher imports = Pattern.compile("import ([^;]*);").matcher(code);
        while (imports.find()) {
            Check.due("rule 4: " + imports.group(), imports.group(1).equals("java.util.Arrays"), true);
        }
        String[] lines = source.split("\n");
        int begin = -1;
        for (int i = 0; i < lines.length; i++) {
            if (lines[i].matches(" {4}( {4})?[A-Za-z].*\\) \\{")) {
                begin = i;
            } else if (begin >= 0 && lines[i].matches(" {4}( {4})?\\}")) {
                Check.due("rule 11: the method of line " + begin, i - begin <= 60, true);
                begin = -1;
            }
        }
        Check.due("signs of the source", source.chars().allMatch(s -> s == 10 || s >= 32 && s < 127), true);
    }
}

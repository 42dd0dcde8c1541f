import java.io.IOException;
import java.lang.reflect.Array;
import java.lang.reflect.Field;
import java.lang.reflect.Method;
import java.lang.reflect.Modifier;
import java.nio.file.Files;
import java.nio.file.Path;
import java.util.ArrayDeque;
import java.util.Collections;
import java.util.Deque;
import java.util.IdentityHashMap;
import java.util.Set;
import java.util.TreeSet;
import java.util.regex.Matcher;
import java.util.regex.Pattern;

/** The rules of LANGUAGE.md that can be seen from outside: the face, words, methods, the room. */
public final class LanguageTest {
    private static final Check CHECK = new Check();
    private static final Path SOURCE = Path.of("src/main/java/TwoViews.java");
    private static final String FACE =
        "at back between clear code codes cost count depth draw energy feed filled fine ground holes "
        + "image kind kinds layer margin path piece pieceAt pieces row same shift size sum text truth "
        + "tune undo value votes wrong";
    private static final String[] RULED_OUT = {
        "finally", "synchronized", "assert", "->", "::", "Exact", "getMessage", "try", "catch",
        "hashCode", "equals(", "System.out", "System.current", "System.nano", "Random", "Thread",
        "Class", "native", "volatile", "transient", "package ", "float", "double"
    };

    private LanguageTest() {
    }

    private static void face() {
        Set<String> names = new TreeSet<>();
        for (Method m : TwoViews.class.getDeclaredMethods()) {
            if (Modifier.isPublic(m.getModifiers())) {
                names.add(m.getName());
            }
        }
        if (!String.join(" ", names).equals(FACE)) {
            CHECK.fail("the face is " + names);
        }
        for (Method m : TwoViews.class.getDeclaredMethods()) {
            int how = m.getModifiers();
            CHECK.due(m + " is public or private", Modifier.isPublic(how) || Modifier.isPrivate(how), true);
            boolean taken = Modifier.isPrivate(how) && names.contains(m.getName());
            CHECK.due(m + " bears a name of the face", taken, false);
            CHECK.due(m + " takes seven at most", m.getParameterCount() <= 7, true);
        }
        for (Field f : TwoViews.class.getDeclaredFields()) {
            boolean open = !Modifier.isPrivate(f.getModifiers());
            CHECK.due(f + " is open", open, f.getName().equals("NONE"));
        }
        CHECK.due("constructors", TwoViews.class.getDeclaredConstructors().length, 1);
        CHECK.due("final", Modifier.isFinal(TwoViews.class.getModifiers()), true);
        inside(names);
    }

    private static void inside(Set<String> names) {
        Class<?>[] classes = TwoViews.class.getDeclaredClasses();
        CHECK.due("twelve classes at most", classes.length <= 12, true);
        for (Class<?> c : classes) {
            CHECK.due(c + " is static", Modifier.isStatic(c.getModifiers()), true);
            CHECK.due(c + " has fields enough", c.getDeclaredFields().length <= 20, true);
            for (Method m : c.getDeclaredMethods()) {
                CHECK.due(m + " bears a name of the face", names.contains(m.getName()), false);
                CHECK.due(m + " takes seven at most", m.getParameterCount() <= 7, true);
            }
            for (Field f : c.getDeclaredFields()) {
                boolean fixed = !Modifier.isStatic(f.getModifiers()) || Modifier.isFinal(f.getModifiers());
                CHECK.due(f + " is fixed if static", fixed, true);
            }
        }
    }

    private static void words() throws IOException {
        String source = Files.readString(SOURCE);
        for (String word : RULED_OUT) {
            String sought = Character.isLetter(word.charAt(0)) ? "\\b" + Pattern.quote(word) : Pattern.quote(word);
            sought += Character.isLetter(word.charAt(word.length() - 1)) && !word.equals("Exact") ? "\\b" : "";
            CHECK.due("the word " + word, Pattern.compile(sought).matcher(source).find(), false);
        }
        Matcher imports = Pattern.compile("import ([^;]*);").matcher(source);
        while (imports.find()) {
            CHECK.due("import " + imports.group(1), imports.group(1).equals("java.util.NoSuchElementException"), true);
        }
        for (char sign : source.toCharArray()) {
            if (sign > 127) {
                CHECK.fail("a sign above 127");
            }
        }
        methodsStayShort(source);
    }

    private static void methodsStayShort(String source) {
        int begun = 0;
        String[] lines = source.split("\n");
        for (int i = 0; i < lines.length; i++) {
            if (lines[i].matches(" {4,8}[a-zA-Z].*\\) (throws \\w+ )?\\{")) {
                begun = i;
            }
            if (lines[i].matches(" {4,8}\\}") && i - begun > 60 && begun > 0) {
                CHECK.due("lines from " + (begun + 1), lines[begun].contains("class"), true);
            }
        }
    }

    /** What one object holds; none of its calls makes more but for exceptions. */
    private static void room() throws IllegalAccessException {
        TwoViews views = new TwoViews();
        Set<Object> seen = Collections.newSetFromMap(new IdentityHashMap<>());
        Deque<Object> open = new ArrayDeque<>();
        open.add(views);
        int elements = 0;
        while (!open.isEmpty()) {
            Object one = open.removeFirst();
            if (!seen.add(one)) {
                continue;
            }
            if (one.getClass().isArray()) {
                elements += Array.getLength(one);
                if (one instanceof Object[] parts) {
                    Collections.addAll(open, parts);
                }
                continue;
            }
            for (Field f : one.getClass().getDeclaredFields()) {
                if (!Modifier.isStatic(f.getModifiers())) {
                    elements++;
                    f.setAccessible(true);
                    if (!f.getType().isPrimitive()) {
                        open.add(f.get(one));
                    }
                }
            }
        }
        System.out.println("an object holds " + seen.size() + " objects, " + elements + " elements");
        CHECK.due("objects are few", seen.size() < 200, true);
        CHECK.due("elements are few", elements < 20000, true);
    }

    private static void callsMakeNothing() throws IOException {
        String source = Files.readString(SOURCE);
        Matcher made = Pattern.compile("(?m)^.*\\bnew .*$").matcher(source);
        while (made.find()) {
            String line = made.group().trim();
            // a constructor's rows, or the exception that the document asks for
            boolean known = line.matches("\\w+(\\[i\\])? = new .*;") || line.startsWith("throw new ");
            CHECK.due("made by: " + line, known, true);
        }
    }

    public static void main(String[] args) throws IOException, IllegalAccessException {
        face();
        words();
        room();
        callsMakeNothing();
        CHECK.end();
    }
}

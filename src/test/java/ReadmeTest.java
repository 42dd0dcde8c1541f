import java.io.IOException;
import java.net.URL;
import java.net.URLClassLoader;
import java.nio.file.Files;
import java.nio.file.Path;
import java.util.ArrayList;
import java.util.Comparator;
import java.util.List;
import java.util.Set;
import java.util.TreeSet;
import java.util.regex.Matcher;
import java.util.regex.Pattern;
import java.util.stream.Stream;
import javax.tools.ToolProvider;

/** README.md tells every call as the document does, and its examples answer what it says. */
public final class ReadmeTest {
    private static final Check CHECK = new Check();
    private static final Path PAGE = Path.of("README.md");
    private static final String NEW_ONE = "TwoViews views = new TwoViews();";
    private static final Pattern ASKED =
        Pattern.compile("(\\w.*\\));\\s+// (-?\\d+|true|false|NoSuchElementException)(:.*)?");
    private static final Pattern ROW = Pattern.compile("\\| `(\\w+\\(.*?\\))`( \\*\\*!\\*\\*)? \\|.*");
    private static final Pattern DIAL =
        Pattern.compile("\\| (\\d) \\| (\\d) \\| (.*) \\| (\\w+)(?: to|,) (\\w+) \\| (\\d+) \\|");

    private ReadmeTest() {
    }

    private static void callsAreTold(List<String> page) throws IOException {
        Set<String> due = new TreeSet<>();
        for (String member : Document.face()) {
            if (Document.isMethod(member)) {
                due.add(Document.call(member) + (member.endsWith(Document.THROWS) ? " throws" : ""));
            }
        }
        Set<String> told = new TreeSet<>();
        for (String line : page) {
            Matcher row = ROW.matcher(line);
            if (row.matches()) {
                told.add(row.group(1) + (row.group(2) == null ? "" : " throws"));
            }
        }
        for (String call : due) {
            CHECK.due(call + " is told", told.contains(call), true);
        }
        CHECK.due("calls told", told.size(), due.size());
    }

    /** A and B as they are at first, where a bound is the other one of them. */
    private static int bound(String told) {
        return told.equals("A") ? 2 : told.equals("B") ? 6 : Integer.parseInt(told);
    }

    private static void dialsAreTold(List<String> page) {
        int dials = 0;
        for (String line : page) {
            Matcher row = DIAL.matcher(line);
            if (row.matches()) {
                dial(row);
                dials++;
            }
        }
        CHECK.due("dials told", dials, 8);
    }

    private static void dial(Matcher row) {
        Counted views = new Counted();
        int what = Integer.parseInt(row.group(1));
        int counted = Integer.parseInt(row.group(2));
        int low = bound(row.group(4));
        int high = bound(row.group(5));
        int first = Integer.parseInt(row.group(6));
        CHECK.due(row.group(3) + " at first", views.count(counted), first);
        CHECK.due(row.group(3) + " too low", views.tune(what, low - 1), TwoViews.NONE);
        CHECK.due(row.group(3) + " too high", views.tune(what, high + 1), TwoViews.NONE);
        CHECK.due(row.group(3) + " lowest", views.tune(what, low), first);
        CHECK.due(row.group(3) + " highest", views.tune(what, high), low);
        CHECK.due(row.group(3) + " then", views.count(counted), high);
    }

    private static List<List<String>> examples(List<String> page) {
        List<List<String>> blocks = new ArrayList<>();
        boolean inside = false;
        for (String line : page) {
            if (line.equals("```java")) {
                blocks.add(new ArrayList<>());
                inside = true;
            } else if (line.equals("```")) {
                inside = false;
            } else if (inside) {
                blocks.get(blocks.size() - 1).add(line);
            }
        }
        return blocks;
    }

    private static long told(List<List<String>> blocks) {
        return blocks.stream().flatMap(List::stream).filter(line -> ASKED.matcher(line).matches()).count();
    }

    private static String checked(String call, String answer) {
        String quoted = call.replace("\"", "\\\"");
        if (!answer.equals("NoSuchElementException")) {
            return "due(\"" + quoted + "\", " + call + ", " + answer + ");\n";
        }
        return "try { due(\"" + quoted + "\", " + call + ", \"" + answer + "\"); }"
            + " catch (java.util.NoSuchElementException e) { asked++; }\n";
    }

    /** A class out of all examples: what begins with static stands beside them, the rest is asked. */
    private static String source(List<List<String>> blocks) {
        StringBuilder asked = new StringBuilder();
        StringBuilder beside = new StringBuilder();
        for (List<String> block : blocks) {
            if (block.get(0).startsWith("static ")) {
                beside.append(String.join("\n", block)).append('\n');
                continue;
            }
            asked.append("{\n");
            for (String line : block) {
                Matcher call = ASKED.matcher(line);
                if (call.matches()) {
                    asked.append(checked(call.group(1), call.group(2)));
                } else if (line.equals(NEW_ONE)) {
                    asked.append(line).append('\n');
                } else {
                    CHECK.fail("no answer is told: " + line);
                }
            }
            asked.append("}\n");
        }
        return "public final class Examples {\n"
            + "static int asked = 0;\n"
            + "static final StringBuilder WRONG = new StringBuilder();\n"
            + "static void due(String call, Object got, Object want) {\nasked++;\nif (!got.equals(want)) {\n"
            + "WRONG.append(call + \" answered \" + got + \", README.md says \" + want + \"\\n\");\n}\n}\n"
            + beside
            + "public static String all() {\n" + asked + "return asked + \" asked\\n\" + WRONG;\n}\n}\n";
    }

    private static void examplesHold(List<String> page) throws IOException, ReflectiveOperationException {
        Path room = Files.createTempDirectory("readme");
        try {
            Path file = room.resolve("Examples.java");
            Files.writeString(file, source(examples(page)));
            String classes = System.getProperty("java.class.path");
            int answer = ToolProvider.getSystemJavaCompiler().run(
                null, null, null, "-cp", classes, "-d", room.toString(), file.toString());
            CHECK.due("the examples compile", answer, 0);
            if (answer == 0) {
                URL[] places = {room.toUri().toURL()};
                try (URLClassLoader loader = new URLClassLoader(places, ReadmeTest.class.getClassLoader())) {
                    String got = (String) loader.loadClass("Examples").getMethod("all").invoke(null);
                    CHECK.due("the examples", got, told(examples(page)) + " asked\n");
                }
            }
        } finally {
            try (Stream<Path> all = Files.walk(room)) {
                for (Path one : all.sorted(Comparator.reverseOrder()).toList()) {
                    Files.delete(one);
                }
            }
        }
    }

    public static void main(String[] args) throws IOException, ReflectiveOperationException {
        List<String> page = Files.readAllLines(PAGE);
        callsAreTold(page);
        dialsAreTold(page);
        examplesHold(page);
        CHECK.end();
    }
}

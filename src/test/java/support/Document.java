import java.io.IOException;
import java.nio.file.Files;
import java.nio.file.Path;
import java.util.ArrayList;
import java.util.List;

/** What the document's page says of the public face, a line for each member. */
final class Document {
    static final String THROWS = " throws NoSuchElementException";
    private static final Path PAGE = Path.of("../shared/DOC.md");

    private Document() {
    }

    /** The members as the document writes them, without blanks around and without the last sign. */
    static List<String> face() throws IOException {
        List<String> members = new ArrayList<>();
        boolean inside = false;
        for (String line : Files.readAllLines(PAGE)) {
            if (line.equals("}")) {
                return members;
            }
            if (inside) {
                members.add(line.trim().replaceAll(";$", ""));
            }
            inside |= line.equals("public final class TwoViews {");
        }
        throw new IllegalStateException("the page tells no face");
    }

    /** A method's name and what it takes, by names alone: size(w, h). */
    static String call(String member) {
        String named = member.replace(THROWS, "").replaceAll("^public \\w+ ", "");
        return named.replaceAll("\\bint ", "");
    }

    static boolean isMethod(String member) {
        return member.matches("public (int|boolean) .*");
    }
}

import java.io.IOException;
import java.lang.reflect.Constructor;
import java.lang.reflect.Field;
import java.lang.reflect.Method;
import java.lang.reflect.Modifier;
import java.nio.file.Files;
import java.nio.file.Path;
import java.util.List;
import java.util.Set;
import java.util.StringJoiner;
import java.util.TreeSet;

/** The public face is the document's: each constant, constructor and method, and what it throws. */
public final class FaceTest {
    private static final Check CHECK = new Check();
    private static final int MEMBERS = 39;
    private static final int THROWING = 8;

    private FaceTest() {
    }

    private static String types(Class<?>[] types) {
        StringJoiner all = new StringJoiner(", ", "(", ")");
        for (Class<?> type : types) {
            all.add(type.getSimpleName());
        }
        return all.toString();
    }

    private static String told(Method m) {
        StringBuilder member = new StringBuilder(Modifier.toString(m.getModifiers())).append(' ');
        member.append(m.getReturnType().getSimpleName()).append(' ').append(m.getName());
        member.append(types(m.getParameterTypes()));
        for (Class<?> thrown : m.getExceptionTypes()) {
            member.append(" throws ").append(thrown.getSimpleName());
        }
        return member.toString();
    }

    /** Whatever another class can see of the class, its classes inside left out. */
    private static Set<String> open() throws IllegalAccessException {
        Set<String> members = new TreeSet<>();
        for (Method m : TwoViews.class.getDeclaredMethods()) {
            if (!Modifier.isPrivate(m.getModifiers())) {
                members.add(told(m));
            }
        }
        for (Constructor<?> c : TwoViews.class.getDeclaredConstructors()) {
            members.add(Modifier.toString(c.getModifiers()) + " TwoViews" + types(c.getParameterTypes()));
        }
        for (Field f : TwoViews.class.getDeclaredFields()) {
            if (!Modifier.isPrivate(f.getModifiers())) {
                String kind = Modifier.toString(f.getModifiers()) + " " + f.getType().getSimpleName();
                members.add(kind + " " + f.getName() + " = " + f.get(null));
            }
        }
        return members;
    }

    private static void asInTheDocument(List<String> face) throws IllegalAccessException {
        Set<String> due = new TreeSet<>();
        for (String member : face) {
            due.add(member.replaceAll("\\bint \\w+(?=[,)])", "int"));
        }
        Set<String> open = open();
        for (String member : due) {
            CHECK.due(member + " is there", open.contains(member), true);
        }
        for (String member : open) {
            CHECK.due(member + " is the document's", due.contains(member), true);
        }
    }

    /** Names of parameters do not stand in a class file. */
    private static void asWritten(List<String> face) throws IOException {
        String source = Files.readString(Path.of("src/main/java/TwoViews.java"));
        CHECK.due("the class", source.contains("\npublic final class TwoViews {\n"), true);
        for (String member : face) {
            String behind = member.contains("=") ? ";\n" : " {\n";
            CHECK.due(member + " is written so", source.contains("\n    " + member + behind), true);
        }
    }

    public static void main(String[] args) throws IOException, IllegalAccessException {
        List<String> face = Document.face();
        CHECK.due("members", face.size(), MEMBERS);
        CHECK.due("throw", face.stream().filter(m -> m.endsWith(Document.THROWS)).count(), THROWING);
        asInTheDocument(face);
        asWritten(face);
        CHECK.end();
    }
}

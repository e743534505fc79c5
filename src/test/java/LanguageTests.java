import java.io.IOException;
import java.lang.reflect.Constructor;
import java.lang.reflect.Field;
import java.lang.reflect.Method;
import java.lang.reflect.Modifier;
import java.nio.file.Files;
import java.nio.file.Path;
import java.util.Set;
import java.util.TreeSet;
import java.util.regex.Matcher;
import java.util.regex.Pattern;

/** The face of the document, and those rules of LANGUAGE.md that can be read off the text. */
public final class LanguageTests {
    private static final Path PROGRAM = Path.of("src/main/java/SaffronCourt.java");
    private static final Path DOCUMENT = Path.of("../shared/DOC.md");
    private static final int MOST_LINES = 60;
    private static final int MOST_PARAMETERS = 7;
    private static final int MOST_FIELDS = 20;
    private static final int MOST_CLASSES = 12;

    private static Set<String> faceOfDocument() throws IOException {
        Set<String> face = new TreeSet<>();
        Matcher m = Pattern.compile("(?m)^    public (.*);$").matcher(Files.readString(DOCUMENT));
        while (m.find()) {
            face.add(m.group(1).replaceAll("(\\w+) \\w+(?=[,)])", "$1"));
        }
        return face;
    }

    private static String typesOf(Class<?>[] types) {
        StringBuilder text = new StringBuilder("(");
        for (Class<?> type : types) {
            text.append(text.length() > 1 ? ", " : "").append(type.getName());
        }
        return text.append(")").toString();
    }

    private static Set<String> faceOfProgram() throws IllegalAccessException {
        Set<String> face = new TreeSet<>();
        for (Field f : SaffronCourt.class.getDeclaredFields()) {
            if (!Modifier.isPrivate(f.getModifiers())) {
                face.add(Modifier.toString(f.getModifiers()).replace("public ", "") + " " + f.getType() + " "
                    + f.getName() + " = " + f.get(null));
            }
        }
        for (Method m : SaffronCourt.class.getDeclaredMethods()) {
            if (!Modifier.isPrivate(m.getModifiers())) {
                face.add(m.getReturnType() + " " + m.getName() + typesOf(m.getParameterTypes()));
            }
        }
        for (Constructor<?> c : SaffronCourt.class.getDeclaredConstructors()) {
            face.add(c.getName() + typesOf(c.getParameterTypes()));
        }
        return face;
    }

    private static void face() throws IOException, IllegalAccessException {
        Set<String> due = faceOfDocument();
        Set<String> got = faceOfProgram();
        Check.due("the face is read", due.size() > 50, true);
        for (String member : due) {
            Check.due("has " + member, got.contains(member), true);
        }
        for (String member : got) {
            Check.due("may have " + member, due.contains(member), true);
        }
        Check.due("public final", SaffronCourt.class.getModifiers(), Modifier.PUBLIC | Modifier.FINAL);
    }

    private static void classesInside() {
        Set<String> names = new TreeSet<>();
        for (Method m : SaffronCourt.class.getDeclaredMethods()) {
            if (Modifier.isPublic(m.getModifiers())) {
                names.add(m.getName());
            }
        }
        for (Method m : SaffronCourt.class.getDeclaredMethods()) {
            boolean isFace = Modifier.isPublic(m.getModifiers());
            Check.due(m + " is of the face or has a name of its own", isFace || !names.contains(m.getName()), true);
            Check.due(m + " has few parameters", m.getParameterCount() <= MOST_PARAMETERS, true);
        }
        Class<?>[] inside = SaffronCourt.class.getDeclaredClasses();
        Check.due("few classes", inside.length + 1 <= MOST_CLASSES, true);
        fields(SaffronCourt.class);
        for (Class<?> c : inside) {
            Check.due(c + " is static", Modifier.isStatic(c.getModifiers()), true);
            Check.due(c + " is not public", (c.getModifiers() & (Modifier.PUBLIC | Modifier.PROTECTED)) == 0, true);
            fields(c);
            for (Method m : c.getDeclaredMethods()) {
                Check.due(c + " has no name of the face: " + m.getName(), names.contains(m.getName()), false);
                Check.due(m + " has few parameters", m.getParameterCount() <= MOST_PARAMETERS, true);
            }
        }
    }

    private static void fields(Class<?> c) {
        int many = 0;
        for (Field f : c.getDeclaredFields()) {
            if (Modifier.isStatic(f.getModifiers())) {
                Check.due(f + " is final", Modifier.isFinal(f.getModifiers()), true);
                boolean plain = f.getType().isPrimitive() || f.getType() == String.class;
                Check.due(f + " is a constant", plain, true);
            } else {
                many++;
            }
        }
        Check.due(c + " has few fields", many <= MOST_FIELDS, true);
    }

    private static void words() throws IOException {
        String code = Files.readString(PROGRAM).replaceAll("(?s)/\\*.*?\\*/", " ").replaceAll("//[^\n]*", " ");
        String bare = code.replaceAll("\"[^\"]*\"", "\"\"");
        String[] barred = {"throw", "try", "catch", "synchronized", "assert", "package", "native", "volatile", "Object",
            "System\\.(?!arraycopy)", "->", "::", "Exact", "static\\s*\\{", "new\\s+\\w+\\s*\\([^()]*\\)\\s*\\{",
            "import (?!java\\.util\\.Arrays;)"};
        for (String word : barred) {
            String bounded = Character.isLetter(word.charAt(0)) && word.matches("\\w+") ? "\\b" + word + "\\b" : word;
            Check.due("without " + word, Pattern.compile(bounded).matcher(bare).find(), false);
        }
        Check.due("signs 1 to 127", code.chars().allMatch(c -> c > 0 && c < 128), true);
    }

    private static void lengths() throws IOException {
        int start = -1;
        int line = 0;
        String name = "";
        for (String text : Files.readAllLines(PROGRAM)) {
            line++;
            if (text.matches(" {4}( {4})?[\\w\\[\\]].*\\) \\{")) {
                start = line;
                name = text.strip();
            } else if (text.matches(" {4}( {4})?\\}") && start > 0) {
                Check.due("short: " + name, line - start < MOST_LINES, true);
                start = -1;
            }
        }
    }

    public static void main(String[] args) throws IOException, IllegalAccessException {
        face();
        classesInside();
        words();
        lengths();
        Check.end();
    }
}

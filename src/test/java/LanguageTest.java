import java.io.IOException;
import java.lang.reflect.Field;
import java.lang.reflect.Member;
import java.lang.reflect.Method;
import java.lang.reflect.Modifier;
import java.nio.charset.StandardCharsets;
import java.nio.file.Files;
import java.nio.file.Path;
import java.util.Arrays;
import java.util.Set;
import java.util.TreeSet;
import java.util.regex.Matcher;
import java.util.regex.Pattern;

/** The face of the document, and those rules of LANGUAGE.md that can be read off the class or its source. */
public final class LanguageTest {
    private static final String[] FACE = {
        "int lane(int, int, int, int, int)", "int miss(int)", "int told(int, int)", "int chock(int, int)",
        "int lift(int, int)", "int at(int, int)", "int kindAt(int, int)", "int copy(int, int, int)", "int sheet(int)",
        "int free(int, int)", "int load(int, int, int, int, int)", "int of(int, int)", "int more(int)",
        "int drawer(int)", "int loads()", "boolean near(int, int)", "int drive(int, int, int)", "int out(int, int)",
        "int undo()", "int again()", "int day(int, long)", "long lean(int)", "int sail()", "long why(int)",
        "int arrive()", "int moved(int)", "int left(int)", "int bound()", "int ship(int)", "int least()",
        "int planned(int, int)", "int stow()", "int step(int, int, int, int)", "int forget()", "int check()",
        "boolean keep(int)", "boolean back(int)", "int found(int)"};
    private static final String[] CONSTANTS = {"NUMBER", "STATE", "MISSING", "TAKEN", "END", "HIGH", "ROOM", "BEHIND",
        "NEXT", "FULL", "LEAN", "PORTS", "STUCK", "LARGE", "NEVER", "DRAWS", "FOUND"};
    private static final String[] FORBIDDEN = {"throw", "throws", "try", "catch", "finally", "synchronized", "assert",
        "import", "package", "protected", "->", "::", "@", "Exact", "hashCode", "toString", "Random", "Thread"};
    private static final int MOST_LINES = 60;
    private static final int MOST_FIELDS = 20;
    private static final int MOST_PARAMETERS = 7;
    private static final int MOST_CLASSES = 12;

    private static int wrong = 0;

    private static void check(boolean so, String otherwise) {
        if (!so) {
            wrong++;
            System.out.println(otherwise);
        }
    }

    private static boolean isHidden(Member m) {
        return Modifier.isPrivate(m.getModifiers());
    }

    private static String signature(Method m) {
        StringBuilder text = new StringBuilder(m.getReturnType() + " " + m.getName() + "(");
        String between = "";
        for (Class<?> c : m.getParameterTypes()) {
            text.append(between).append(c);
            between = ", ";
        }
        return text + ")";
    }

    private static void checkFace() throws IllegalAccessException {
        Set<String> open = new TreeSet<>();
        Set<String> names = new TreeSet<>();
        for (Method m : FerryDeck.class.getDeclaredMethods()) {
            if (isHidden(m)) continue;
            check(Modifier.isPublic(m.getModifiers()) && !Modifier.isStatic(m.getModifiers()), m + " is not of the face");
            open.add(signature(m));
            names.add(m.getName());
        }
        check(open.equals(new TreeSet<>(Arrays.asList(FACE))), "the face is " + open);
        Set<String> constants = new TreeSet<>();
        for (Field f : FerryDeck.class.getDeclaredFields()) {
            if (isHidden(f)) continue;
            constants.add(f.getName());
            int due = -1 - Arrays.asList(CONSTANTS).indexOf(f.getName());
            check(f.getType() == int.class && f.getInt(null) == due, f + " is not " + due);
        }
        check(constants.equals(new TreeSet<>(Arrays.asList(CONSTANTS))), "the constants are " + constants);
        check(FerryDeck.class.getDeclaredConstructors().length == 1, "there is more than one constructor");
        check(Modifier.isFinal(FerryDeck.class.getModifiers()), "the class is not final");
        checkNames(FerryDeck.class, names);
        for (Class<?> c : FerryDeck.class.getDeclaredClasses()) checkNames(c, names);
    }

    private static void checkNames(Class<?> c, Set<String> faceNames) {
        check(c == FerryDeck.class || Modifier.isStatic(c.getModifiers()), c + " is not static");
        int fields = 0;
        for (Field f : c.getDeclaredFields()) {
            if (!Modifier.isStatic(f.getModifiers())) fields++;
            else check(Modifier.isFinal(f.getModifiers()), f + " is static and not final");
        }
        check(fields <= MOST_FIELDS, c + " has " + fields + " fields");
        for (Method m : c.getDeclaredMethods()) {
            check(m.getParameterCount() <= MOST_PARAMETERS, m + " has too many parameters");
            boolean ofFace = c == FerryDeck.class && Modifier.isPublic(m.getModifiers());
            check(ofFace || !faceNames.contains(m.getName()), m + " bears a name of the face");
        }
    }

    private static void checkSource() throws IOException {
        byte[] bytes = Files.readAllBytes(Path.of("src/main/java/FerryDeck.java"));
        String source = new String(bytes, StandardCharsets.ISO_8859_1);
        String code = source.replaceAll("(?s)/\\*.*?\\*/", "").replaceAll("//[^\n]*", "");
        for (String word : FORBIDDEN) {
            String edge = Character.isLetter(word.charAt(0)) && !word.equals("Exact") ? "\\b" : "";
            Matcher m = Pattern.compile(edge + Pattern.quote(word) + edge).matcher(code);
            check(!m.find(), "the source has " + word);
        }
        check(FerryDeck.class.getDeclaredClasses().length < MOST_CLASSES, "there are too many classes");
        int start = 0;
        String[] lines = source.split("\n");
        for (int i = 0; i < lines.length; i++) {
            if (lines[i].matches("( {4}| {8})[a-zA-Z].*\\) \\{")) start = i;
            if (lines[i].matches("( {4}| {8})\\}") && start > 0) {
                check(i - start < MOST_LINES, "the method at line " + (start + 1) + " is too long");
                start = 0;
            }
        }
    }

    public static void main(String[] args) throws IOException, IllegalAccessException {
        checkFace();
        checkSource();
        System.out.println(wrong == 0 ? "the class keeps to the rules" : wrong + " rules are broken");
        if (wrong != 0) System.exit(1);
    }
}

import java.io.IOException;
import java.lang.reflect.Constructor;
import java.lang.reflect.Field;
import java.lang.reflect.Method;
import java.lang.reflect.Modifier;
import java.nio.charset.StandardCharsets;
import java.nio.file.Files;
import java.nio.file.Path;
import java.util.ArrayList;
import java.util.List;
import java.util.TreeSet;
import java.util.regex.Matcher;
import java.util.regex.Pattern;

/** The face of the class and the rules of LANGUAGE.md that can be seen by reading. Runs from the project's folder. */
public final class RulesTest {
    private static final String FACE = "board/2 cheapest/1 days/0 desk/0 drift/1 fault/0 feed/1 gap/0 goBack/1 gone/2 "
            + "instead/2 judge/0 keep/1 lookOn/0 lose/2 most/1 must/1 paint/3 paintedOver/1 price/1 search/2 seed/1 "
            + "shown/2 shows/1 side/2 sums/1 tear/0 told/1 turned/1 undo/0 worst/0 write/1 wrong/2";
    private static final String[] BANNED = {"throw", "throws", "try", "catch", "synchronized", "assert", "static {",
        "->", "::", "hashCode", "toString", "null", "String", "double", "float", "Object"};
    private static final List<String> LIBRARY = List.of("Arrays.fill", "Integer.bitCount", "Math.max", "Math.min",
        "System.arraycopy");
    private static final List<Class<?>> PLAIN_TYPES = List.of(int.class, boolean.class, int[].class, boolean[].class,
        char[].class);

    public static void main(String[] args) throws IOException {
        face();
        privateNames();
        nestedClasses();
        fields();
        source();
        library();
        whatIsMade();
        Check.finish("RulesTest");
    }

    private static void due(String what, String got, String want) {
        if (!got.equals(want)) {
            System.out.println(what + ": " + got + ", due is " + want);
        }
        Check.due(what, got.equals(want) ? 1 : 0, 1);
    }

    private static void face() {
        TreeSet<String> methods = new TreeSet<>();
        for (Method method : CubeDays.class.getDeclaredMethods()) {
            if (!Modifier.isPrivate(method.getModifiers())) {
                methods.add(method.getName() + "/" + method.getParameterCount());
                Check.due(method.getName() + " is public", Modifier.isPublic(method.getModifiers()) ? 1 : 0, 1);
                due(method.getName() + " answers", method.getReturnType().getName(), "int");
            }
        }
        due("face", String.join(" ", methods), FACE);
        TreeSet<String> fields = new TreeSet<>();
        for (Field field : CubeDays.class.getDeclaredFields()) {
            if (!Modifier.isPrivate(field.getModifiers())) {
                fields.add(field.getName());
            }
        }
        due("constants", fields.toString(), "[FULL, NONE, NOT, OUTSIDE, UNKNOWN]");
        Constructor<?>[] made = CubeDays.class.getConstructors();
        Check.due("constructors", made.length, 1);
        Check.due("its parameters", made[0].getParameterCount(), 0);
        Check.due("final", Modifier.isFinal(CubeDays.class.getModifiers()) ? 1 : 0, 1);
        Check.due("NONE", CubeDays.NONE, -1);
        Check.due("UNKNOWN", CubeDays.UNKNOWN, -1000000001);
        Check.due("OUTSIDE", CubeDays.OUTSIDE, -1000000002);
        Check.due("NOT", CubeDays.NOT, -1000000003);
        Check.due("FULL", CubeDays.FULL, -1000000004);
    }

    private static TreeSet<String> faceNames() {
        TreeSet<String> names = new TreeSet<>();
        for (String name : FACE.split(" ")) {
            names.add(name.substring(0, name.indexOf('/')));
        }
        return names;
    }

    /** Rule 1: no private method bears the name of a public one. */
    private static void privateNames() {
        TreeSet<String> names = faceNames();
        for (Method method : CubeDays.class.getDeclaredMethods()) {
            boolean isFace = names.contains(method.getName());
            Check.due(method + " is private", Modifier.isPrivate(method.getModifiers()) ? 1 : 0, isFace ? 0 : 1);
        }
    }

    private static List<Class<?>> allClasses() {
        List<Class<?>> all = new ArrayList<>(List.of(CubeDays.class.getDeclaredClasses()));
        all.add(CubeDays.class);
        return all;
    }

    private static void nestedClasses() {
        List<Class<?>> all = List.of(CubeDays.class.getDeclaredClasses());
        Check.due("at most twelve classes", all.size() + 1 <= 12 ? 1 : 0, 1);
        TreeSet<String> names = faceNames();
        for (Class<?> one : all) {
            Check.due(one + " is static", Modifier.isStatic(one.getModifiers()) ? 1 : 0, 1);
            Check.due(one + " has no classes of its own", one.getDeclaredClasses().length, 0);
            for (Method method : one.getDeclaredMethods()) {
                Check.due(one + " " + method.getName() + " is a name of the face", names.contains(method.getName()) ? 1 : 0, 0);
                Check.due(one + " " + method.getName() + " has few parameters", method.getParameterCount() <= 7 ? 1 : 0, 1);
            }
        }
    }

    /** Rules 3, 5 and 11: what a field may be, static ones are constants of int, and how many a class has. */
    private static void fields() {
        List<Class<?>> own = allClasses();
        for (Class<?> one : own) {
            int count = 0;
            for (Field field : one.getDeclaredFields()) {
                Class<?> type = field.getType();
                boolean isOwn = own.contains(type) || type.isArray() && own.contains(type.getComponentType());
                Check.due(field + " is of a type that may be", isOwn || PLAIN_TYPES.contains(type) ? 1 : 0, 1);
                if (Modifier.isStatic(field.getModifiers())) {
                    boolean isConstant = Modifier.isFinal(field.getModifiers()) && type == int.class;
                    Check.due(field + " is a constant", isConstant ? 1 : 0, 1);
                } else {
                    count++;
                }
            }
            Check.due(one + " has at most twenty fields", count <= 20 ? 1 : 0, 1);
        }
    }

    private static String read() throws IOException {
        return Files.readString(Path.of("src/main/java/CubeDays.java"), StandardCharsets.UTF_8);
    }

    private static String withoutComments(String text) {
        return text.replaceAll("(?s)/\\*.*?\\*/", "").replaceAll("//[^\n]*", "");
    }

    /** Rule 4: only what the class needs of the list there. */
    private static void library() throws IOException {
        Matcher call = Pattern.compile("\\b([A-Z]\\w*\\.\\w+)\\(").matcher(withoutComments(read()));
        while (call.find()) {
            Check.due("the library's " + call.group(1) + " may be used", LIBRARY.contains(call.group(1)) ? 1 : 0, 1);
        }
    }

    /** All calls of a run live in one room: so things are made for fields and in constructors alone. */
    private static void whatIsMade() throws IOException {
        String inConstructors = " +(images|states)\\[i\\] = new State\\(\\);";
        for (String line : withoutComments(read()).split("\n")) {
            if (line.matches(".*\\bnew\\b.*")) {
                boolean isField = line.matches(" +(private )?final [A-Z]?\\w+(\\[\\])? \\w+ = new [^;]*;");
                Check.due("made for a field: " + line, isField || line.matches(inConstructors) ? 1 : 0, 1);
            }
            Check.due("a copy is made: " + line, line.matches(".*\\b(clone|copyOf|copyOfRange)\\(.*") ? 1 : 0, 0);
        }
    }

    private static void source() throws IOException {
        String text = read();
        String code = withoutComments(text);
        for (String word : BANNED) {
            boolean isWord = Character.isLetter(word.charAt(0)) && Character.isLetter(word.charAt(word.length() - 1));
            boolean found = isWord ? code.matches("(?s).*\\b" + word + "\\b.*") : code.contains(word);
            Check.due("the source has " + word, found ? 1 : 0, 0);
        }
        Check.due("imports", code.split("\nimport |^import ").length - 1, 1);
        Check.due("imports java.util.Arrays", code.contains("import java.util.Arrays;") ? 1 : 0, 1);
        Check.due("a package", code.contains("\npackage ") || code.startsWith("package ") ? 1 : 0, 0);
        int start = 0;
        String[] lines = text.split("\n");
        for (int i = 0; i < lines.length; i++) {
            if (lines[i].matches(" +((private|public|static|final) )*[A-Za-z\\[\\]]+ [a-zA-Z]+\\(.*\\) \\{")) {
                start = i;
            }
            if (lines[i].matches("    (    )?\\}")) {
                Check.due("lines of the method that ends in line " + (i + 1), i - start <= 60 || start == 0 ? 1 : 0, 1);
                start = 0;
            }
        }
    }
}

import java.lang.reflect.Constructor;
import java.lang.reflect.Field;
import java.lang.reflect.Method;
import java.lang.reflect.Modifier;
import java.nio.charset.StandardCharsets;
import java.nio.file.Files;
import java.nio.file.Path;
import java.util.Arrays;
import java.util.Set;
import java.util.TreeSet;
import java.util.regex.Matcher;
import java.util.regex.Pattern;

/** The class's face is the document's, and its source keeps to what of LANGUAGE.md can be seen without a compiler. */
public final class FaceTest {
    private static final String[] FACE = {
        "boolean clock(int)", "int street(int, int, boolean)", "boolean beside(int, int, boolean)", "int ring(int)",
        "int start(int)", "int book(int, int, int, int)", "int film(int, int, int)", "int feed(int, int, int, int, int)",
        "int end(int)", "int law()", "int by(int, int, int, int)", "int share(int, int, int, int, int)",
        "long differ(int, int, int, int, int, int)", "int alike(int, int, int, int, int)", "long off(int, int)",
        "int thin(int, int)", "long cars(int, int, int)", "int edge(int)", "int cost(int, int)", "int where(int, int)",
        "int like(int)", "int deeds(int, int)", "long miss(int, int, int)", "int best(int, int, int, int)",
        "int run(int, int, int, int, int)", "int towns(int, int, int, int)", "int plan(int, int, int, int)",
        "int image(int)", "int back(int)", "int count(int)"};
    private static final String[] FORBIDDEN = {"throw", "throws", "try", "catch", "finally", "synchronized", "assert", "float",
        "double", "Object", "System\\.(?!arraycopy)\\w+", "Math\\.\\w+Exact", "hashCode", "toString", "volatile",
        "transient", "native", "->", "::", "import (?!java\\.util\\.(Arrays|ArrayList|List);)", "Integer\\.M\\w+",
        "while \\(true\\)", "for \\(;;\\)", "\\.length\\(\\) -"};

    private FaceTest() {
    }

    public static void main(String[] args) throws Exception {
        face();
        classesInside();
        if (args.length > 0) {
            source(Files.readString(Path.of(args[0]), StandardCharsets.UTF_8));
        }
        Due.end();
    }

    private static void face() throws Exception {
        Class<?> type = GuardedStreets.class;
        Due.due("public and final", type.getModifiers(), Modifier.PUBLIC | Modifier.FINAL);
        Set<String> due = new TreeSet<>(Arrays.asList(FACE));
        Set<String> names = new TreeSet<>();
        for (Method method : type.getDeclaredMethods()) {
            String parameters = Arrays.toString(method.getParameterTypes()).replaceAll("[\\[\\]]", "");
            String told = method.getReturnType() + " " + method.getName() + "(" + parameters + ")";
            if (!Modifier.isPrivate(method.getModifiers())) {
                Due.due("of the face: " + told, due.remove(told), true);
                Due.due("public and no more: " + told, method.getModifiers(), Modifier.PUBLIC);
                names.add(method.getName());
            }
        }
        Due.due("missing: " + due, due.size(), 0);
        for (Method method : type.getDeclaredMethods()) {
            boolean isPrivate = Modifier.isPrivate(method.getModifiers());
            Due.due("a private " + method.getName(), isPrivate && names.contains(method.getName()), false);
        }
        for (Field field : type.getDeclaredFields()) {
            boolean isPrivate = Modifier.isPrivate(field.getModifiers());
            Due.due("field " + field.getName(), isPrivate || field.getName().equals("NONE"), true);
        }
        Due.due("constructors", type.getDeclaredConstructors().length, 1);
        Constructor<?> constructor = type.getConstructor();
        Due.due("constructor", constructor.getModifiers(), Modifier.PUBLIC);
        Due.due("NONE", type.getField("NONE").getModifiers(), Modifier.PUBLIC | Modifier.STATIC | Modifier.FINAL);
    }

    private static void classesInside() {
        Class<?>[] inside = GuardedStreets.class.getDeclaredClasses();
        Due.due("some twelve classes", inside.length < 12, true);
        for (Class<?> type : inside) {
            int modifiers = type.getModifiers();
            Due.due(type + " static", Modifier.isStatic(modifiers), true);
            Due.due(type + " not to be seen", Modifier.isPublic(modifiers) || Modifier.isProtected(modifiers), false);
            int fields = 0;
            for (Field field : type.getDeclaredFields()) {
                boolean isStatic = Modifier.isStatic(field.getModifiers());
                fields += isStatic ? 0 : 1;
                Due.due(field + " final", !isStatic || Modifier.isFinal(field.getModifiers()), true);
            }
            Due.due(type + " some twenty fields", fields <= 20, true);
            for (Method method : type.getDeclaredMethods()) {
                Due.due(method + " seven parameters", method.getParameterCount() <= 7, true);
            }
        }
    }

    private static void source(String text) {
        String bare = text.replaceAll("(?s)/\\*.*?\\*/", "").replaceAll("//[^\\n]*", "").replaceAll("\"[^\"\\n]*\"", "\"\"");
        for (String word : FORBIDDEN) {
            boolean isWord = Character.isLetter(word.charAt(0)) && Character.isLetter(word.charAt(word.length() - 1));
            Matcher matcher = Pattern.compile(isWord ? "\\b" + word + "\\b" : word).matcher(bare);
            Due.due("the source has " + word, matcher.find(), false);
        }
        for (int i = 0; i < text.length(); i++) {
            if (text.charAt(i) > 126) {
                Due.due("a sign beyond 126 at " + i, text.charAt(i), 126);
            }
        }
        Matcher method = Pattern.compile("(?m)^( {4,8})\\S[^;=\\n]*\\) \\{\\n(?:(?!\\1\\}).*\\n)*").matcher(text);
        int methods = 0;
        while (method.find()) {
            methods++;
            int lines = method.group().split("\n").length;
            Due.due("lines of " + method.group().split("\n")[0].trim(), Math.max(60, lines), 60);
        }
        Due.due("methods were found", methods > 100, true);
    }
}

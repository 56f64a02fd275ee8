import java.io.IOException;
import java.lang.reflect.Constructor;
import java.lang.reflect.Field;
import java.lang.reflect.Method;
import java.lang.reflect.Modifier;
import java.nio.charset.StandardCharsets;
import java.nio.file.Files;
import java.nio.file.Path;
import java.util.ArrayList;
import java.util.Collections;
import java.util.List;
import java.util.TreeSet;

/** The face that the document names, and those rules of LANGUAGE.md that a look from outside can tell. */
public final class LanguageTest {
    private static final Path SOURCE = Path.of("src/main/java/TapestryScene.java");
    private static final Path DOCUMENT = Path.of("../shared/DOC.md");

    private static final String[] RULED_OUT = {"import ", "package ", "->", "::", "catch", "finally", "synchronized",
        "assert ", "instanceof", "System.", "Thread", "Random", "Exact(", "throws Exception", "\" +", "+ \"", "new int",
        "protected ", "static {"};

    public static void main(String[] args) throws IOException {
        face();
        fields();
        names();
        classesInside();
        words();
        Check.end();
    }

    /** Every method of the document with its types and exceptions, and no other. */
    private static void face() throws IOException {
        Check.compare("the class", Modifier.toString(TapestryScene.class.getModifiers()), "public final");
        List<String> got = new ArrayList<>();
        for (Method method : TapestryScene.class.getDeclaredMethods()) {
            if (!Modifier.isPrivate(method.getModifiers())) {
                got.add(signature(Modifier.toString(method.getModifiers()) + " " + method.getReturnType() + " "
                        + method.getName(), method.getParameterTypes(), method.getExceptionTypes()));
            }
        }
        for (Constructor<?> constructor : TapestryScene.class.getDeclaredConstructors()) {
            got.add(signature(Modifier.toString(constructor.getModifiers()) + " TapestryScene",
                    constructor.getParameterTypes(), constructor.getExceptionTypes()));
        }
        List<String> due = new ArrayList<>();
        for (String line : Files.readAllLines(DOCUMENT)) {
            if (line.startsWith("    public ")) {
                due.add(line.trim().replaceAll("(int|boolean) \\w+([,)])", "$1$2"));
            }
        }
        Collections.sort(got);
        Collections.sort(due);
        Check.compare("the number of methods", "" + got.size(), "" + due.size());
        for (int i = 0; i < Math.min(got.size(), due.size()); i++) {
            Check.compare("the face", got.get(i), due.get(i));
        }
    }

    private static String signature(String start, Class<?>[] types, Class<?>[] exceptions) {
        List<String> arguments = new ArrayList<>();
        for (Class<?> type : types) {
            arguments.add(type.getSimpleName());
        }
        List<String> thrown = new ArrayList<>();
        for (Class<?> exception : exceptions) {
            thrown.add(exception.getSimpleName());
        }
        return start + "(" + String.join(", ", arguments) + ")"
                + (thrown.isEmpty() ? "" : " throws " + String.join(", ", thrown)) + ";";
    }

    private static void fields() {
        for (Field field : TapestryScene.class.getDeclaredFields()) {
            int is = field.getModifiers();
            Check.compare(field + " is private", "" + Modifier.isPrivate(is), "true");
            Check.compare(field + " is final, if static", "" + (!Modifier.isStatic(is) || Modifier.isFinal(is)), "true");
        }
    }

    private static void names() {
        TreeSet<String> publicNames = new TreeSet<>();
        for (Method method : TapestryScene.class.getDeclaredMethods()) {
            if (Modifier.isPublic(method.getModifiers())) {
                publicNames.add(method.getName());
            }
        }
        List<Class<?>> all = new ArrayList<>(List.of(TapestryScene.class.getDeclaredClasses()));
        all.add(TapestryScene.class);
        for (Class<?> inside : all) {
            for (Method method : inside.getDeclaredMethods()) {
                boolean isOther = Modifier.isPublic(method.getModifiers()) || !publicNames.contains(method.getName());
                Check.compare(method + " bears a name of its own", "" + isOther, "true");
            }
        }
    }

    private static void classesInside() {
        Class<?>[] all = TapestryScene.class.getDeclaredClasses();
        Check.compare("at most 12 classes", "" + (all.length < 12), "true");
        for (Class<?> inside : all) {
            Check.compare(inside.getName(), Modifier.toString(inside.getModifiers()), "private static final");
            Check.compare(inside + " has at most 20 fields", "" + (inside.getDeclaredFields().length <= 20), "true");
        }
    }

    private static void words() throws IOException {
        String source = Files.readString(SOURCE, StandardCharsets.ISO_8859_1);
        for (String word : RULED_OUT) {
            Check.compare("the source says " + word, "" + source.contains(word), "false");
        }
        boolean isPlain = source.chars().allMatch(c -> c == '\n' || c >= 32 && c < 127);
        Check.compare("the source is of plain signs", "" + isPlain, "true");
    }
}

import java.io.IOException;
import java.lang.reflect.Constructor;
import java.lang.reflect.Field;
import java.lang.reflect.Method;
import java.lang.reflect.Modifier;
import java.nio.file.Files;
import java.nio.file.Path;
import java.util.Arrays;
import java.util.Set;
import java.util.TreeSet;
import java.util.regex.Matcher;
import java.util.regex.Pattern;

/** The public face of the document, and the rules of LANGUAGE.md that can be seen from outside. */
public final class FaceTest {
    private static final String[] FACE = {
        "int arm(int,int)", "int pivot(int,int)", "int set(int,int)", "int count(int)", "int sharpen()",
        "int draw()", "int point(int,int,int,int)", "int remove(int)", "int copy(int)", "int why(int)",
        "int drawing(int,int)", "int ratio(int,int)", "long pointInfo(int,int,int)", "long atOnce(int,int,int)",
        "int alike(int,int)", "int armFor(int,int)", "int undo()", "int type(int)", "int clearText()",
        "int fault(int)", "int read()"};
    private static final String[] UNWANTED = {
        "import ", "package ", "->", "::", " throw ", "try ", "catch", "synchronized", "assert ", "finally",
        "System.", "Float.", "Double.", "protected ", "double ", "instanceof"};
    /** Of the library only this is used, and rule 4 lists it. */
    private static final Pattern LIBRARY = Pattern.compile("Math\\.(abs|min|max)\\(");
    private static final Pattern OF_ANOTHER_CLASS = Pattern.compile("\\b[A-Z][a-z]\\w*\\.\\w+\\(?");
    private static final Pattern MADE = Pattern.compile("\\bnew (\\w+)");
    private static final Pattern METHOD = Pattern.compile("^ {4,8}(?! )[^=;]*\\) \\{$");
    private static final int MOST_LINES = 60;
    private static final int MOST_CLASSES = 12;
    private static final Checker CHECK = new Checker();

    public static void main(String[] args) throws IOException {
        constants();
        face();
        for (Class<?> inner : PantographArm.class.getDeclaredClasses()) {
            inside(inner);
        }
        inside(PantographArm.class);
        yes("some twelve classes", PantographArm.class.getDeclaredClasses().length < MOST_CLASSES);
        String source = source();
        words(source);
        library(source);
        lengths(source);
        CHECK.finish();
    }

    private static void yes(String what, boolean so) {
        CHECK.due(what, so ? 1 : 0, 1);
    }

    private static void constants() {
        CHECK.due("INVALID_ARGUMENT", PantographArm.INVALID_ARGUMENT, -2000000001);
        CHECK.due("NOT_POSSIBLE", PantographArm.NOT_POSSIBLE, -2000000002);
        CHECK.due("LIMIT_REACHED", PantographArm.LIMIT_REACHED, -2000000003);
        CHECK.due("NOT_FOUND", PantographArm.NOT_FOUND, -2000000004);
    }

    private static void face() {
        Class<?> face = PantographArm.class;
        yes("public and final", Modifier.isPublic(face.getModifiers()) && Modifier.isFinal(face.getModifiers()));
        Set<String> names = new TreeSet<>();
        for (Method method : face.getDeclaredMethods()) {
            if (Modifier.isPublic(method.getModifiers())) {
                names.add(told(method));
            } else {
                yes(method + " is private", Modifier.isPrivate(method.getModifiers()));
            }
        }
        yes("the methods of the document " + names, names.equals(new TreeSet<>(Arrays.asList(FACE))));
        Constructor<?>[] constructors = face.getDeclaredConstructors();
        yes("one constructor", constructors.length == 1 && constructors[0].getParameterCount() == 0
            && Modifier.isPublic(constructors[0].getModifiers()));
        int constants = 0;
        for (Field field : face.getDeclaredFields()) {
            boolean isOpen = !Modifier.isPrivate(field.getModifiers());
            constants += isOpen ? 1 : 0;
            yes(field + " is a constant", !isOpen || field.getType() == int.class
                && Modifier.isPublic(field.getModifiers()) && Modifier.isStatic(field.getModifiers()));
        }
        CHECK.due("constants", constants, 4);
    }

    private static String told(Method method) {
        StringBuilder told = new StringBuilder(method.getReturnType() + " " + method.getName() + "(");
        for (Class<?> type : method.getParameterTypes()) {
            told.append(told.charAt(told.length() - 1) == '(' ? "" : ",").append(type);
        }
        return told.append(")").toString();
    }

    private static void inside(Class<?> one) {
        int fields = 0;
        for (Field field : one.getDeclaredFields()) {
            boolean isStatic = Modifier.isStatic(field.getModifiers());
            fields += isStatic ? 0 : 1;
            yes(field + " is final", !isStatic || Modifier.isFinal(field.getModifiers()));
        }
        yes(one + " has some twenty fields", fields <= 20);
        for (Method method : one.getDeclaredMethods()) {
            yes(method + " takes seven at most", method.getParameterCount() <= 7);
            boolean isOfFace = one == PantographArm.class && Modifier.isPublic(method.getModifiers());
            yes(method + " bears a name of its own",
                isOfFace || Arrays.stream(FACE).noneMatch(told -> told.contains(" " + method.getName() + "(")));
        }
        if (one != PantographArm.class) {
            yes(one + " is static and not public", Modifier.isStatic(one.getModifiers())
                && !Modifier.isPublic(one.getModifiers()));
        }
    }

    /** The program without its comments. */
    private static String source() throws IOException {
        return Files.readString(Path.of("src/main/java/PantographArm.java"))
            .replaceAll("(?s)/\\*.*?\\*/", " ").replaceAll("//[^\n]*", " ");
    }

    private static void words(String source) {
        for (String word : UNWANTED) {
            yes("no '" + word + "'", !source.contains(word));
        }
        boolean isPlain = true;
        for (int i = 0; i < source.length(); i++) {
            isPlain = isPlain && source.charAt(i) < 127;
        }
        yes("plain signs", isPlain);
    }

    private static void library(String source) {
        Set<String> own = new TreeSet<>(Set.of("int", "long", "char", "boolean"));
        for (Class<?> inner : PantographArm.class.getDeclaredClasses()) {
            own.add(inner.getSimpleName());
        }
        Matcher used = OF_ANOTHER_CLASS.matcher(source);
        while (used.find()) {
            yes(used.group() + " is in the library of rule 4", LIBRARY.matcher(used.group()).matches());
        }
        Matcher made = MADE.matcher(source);
        while (made.find()) {
            yes(made.group() + " is of its own", own.contains(made.group(1)));
        }
    }

    /** A method ends with the "}" that stands as far from the border as it begins. */
    private static void lengths(String source) {
        String[] lines = source.split("\n");
        int methods = 0;
        for (int i = 0; i < lines.length; i++) {
            if (METHOD.matcher(lines[i]).find()) {
                String end = lines[i].replaceAll("\\S.*", "") + "}";
                int length = 1;
                while (i + length < lines.length && !lines[i + length].equals(end)) {
                    length++;
                }
                methods++;
                yes(lines[i].trim() + " has some sixty lines at most", length < MOST_LINES);
            }
        }
        yes("methods were found", methods > FACE.length);
    }
}

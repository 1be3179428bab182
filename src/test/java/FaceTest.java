import java.io.IOException;
import java.lang.reflect.Constructor;
import java.lang.reflect.Field;
import java.lang.reflect.Method;
import java.lang.reflect.Modifier;
import java.nio.file.Files;
import java.nio.file.Path;
import java.util.Arrays;
import java.util.Set;
import java.util.TreeSet;

/** The public face of the document, and the rules of LANGUAGE.md that can be seen from outside. */
public final class FaceTest {
    private static final String[] FACE = {
        "int arm(int,int)", "int pivot(int,int)", "int set(int,int)", "int count(int)", "int sharpen()",
        "int draw()", "int point(int,int,int,int)", "int remove(int)", "int copy(int)", "int why(int)",
        "int drawing(int,int)", "int ratio(int,int)", "long pointInfo(int,int,int)", "long atOnce(int,int,int)",
        "int alike(int,int)", "int armFor(int,int)", "int undo()", "int type(int)", "int clearText()",
        "int fault(int)", "int read()"};
    private static final String[] UNWANTED = {
        "import ", "package ", "->", "::", " throw ", "try ", "catch", "synchronized", "assert ", "finally",
        "System.", "Float.", "Double.", "protected ", "double ", "instanceof"};
    private static final Checker CHECK = new Checker();

    public static void main(String[] args) throws IOException {
        constants();
        face();
        for (Class<?> inner : PantographArm.class.getDeclaredClasses()) {
            inside(inner);
        }
        inside(PantographArm.class);
        source();
        CHECK.finish();
    }

    private static void yes(String what, boolean so) {
        CHECK.due(what, so ? 1 : 0, 1);
    }

    private static void constants() {
        CHECK.due("INVALID_ARGUMENT", PantographArm.INVALID_ARGUMENT, -2000000001);
        CHECK.due("NOT_POSSIBLE", PantographArm.NOT_POSSIBLE, -2000000002);
        CHECK.due("LIMIT_REACHED", PantographArm.LIMIT_REACHED, -2000000003);
        CHECK.due("NOT_FOUND", PantographArm.NOT_FOUND, -2000000004);
    }

    private static void face() {
        Class<?> face = PantographArm.class;
        yes("public and final", Modifier.isPublic(face.getModifiers()) && Modifier.isFinal(face.getModifiers()));
        Set<String> names = new TreeSet<>();
        for (Method method : face.getDeclaredMethods()) {
            if (Modifier.isPublic(method.getModifiers())) {
                names.add(told(method));
            } else {
                yes(method + " is private", Modifier.isPrivate(method.getModifiers()));
            }
        }
        yes("the methods of the document " + names, names.equals(new TreeSet<>(Arrays.asList(FACE))));
        Constructor<?>[] constructors = face.getDeclaredConstructors();
        yes("one constructor", constructors.length == 1 && constructors[0].getParameterCount() == 0
            && Modifier.isPublic(constructors[0].getModifiers()));
        int constants = 0;
        for (Field field : face.getDeclaredFields()) {
            boolean isOpen = !Modifier.isPrivate(field.getModifiers());
            constants += isOpen ? 1 : 0;
            yes(field + " is a constant", !isOpen || field.getType() == int.class
                && Modifier.isPublic(field.getModifiers()) && Modifier.isStatic(field.getModifiers()));
        }
        CHECK.due("constants", constants, 4);
    }

    private static String told(Method method) {
        StringBuilder told = new StringBuilder(method.getReturnType() + " " + method.getName() + "(");
        for (Class<?> type : method.getParameterTypes()) {
            told.append(told.charAt(told.length() - 1) == '(' ? "" : ",").append(type);
        }
        return told.append(")").toString();
    }

    private static void inside(Class<?> one) {
        int fields = 0;
        for (Field field : one.getDeclaredFields()) {
            boolean isStatic = Modifier.isStatic(field.getModifiers());
            fields += isStatic ? 0 : 1;
            yes(field + " is final", !isStatic || Modifier.isFinal(field.getModifiers()));
        }
        yes(one + " has some twenty fields", fields <= 20);
        for (Method method : one.getDeclaredMethods()) {
            yes(method + " takes seven at most", method.getParameterCount() <= 7);
            boolean isOfFace = one == PantographArm.class && Modifier.isPublic(method.getModifiers());
            yes(method + " bears a name of its own",
                isOfFace || Arrays.stream(FACE).noneMatch(told -> told.contains(" " + method.getName() + "(")));
        }
        if (one != PantographArm.class) {
            yes(one + " is static and not public", Modifier.isStatic(one.getModifiers())
                && !Modifier.isPublic(one.getModifiers()));
        }
    }

    private static void source() throws IOException {
        String source = Files.readString(Path.of("src/main/java/PantographArm.java"))
            .replaceAll("(?s)/\\*.*?\\*/", " ").replaceAll("//[^\n]*", " ");
        for (String word : UNWANTED) {
            yes("no '" + word + "'", !source.contains(word));
        }
        for (int i = 0; i < source.length(); i++) {
            yes("plain signs", source.charAt(i) < 127);
        }
    }
}

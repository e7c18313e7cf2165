import java.io.IOException;
import java.lang.reflect.Field;
import java.lang.reflect.Method;
import java.lang.reflect.Modifier;
import java.nio.file.Files;
import java.nio.file.Path;
import java.util.ArrayList;
import java.util.List;
import java.util.Set;
import java.util.TreeSet;
import java.util.regex.Pattern;

/** The public face, and the rules of LANGUAGE.md that can be seen from outside or in the words of the source. */
public final class FaceTest {
    private static final Due due = new Due();

    private static final Set<String> METHODS = Set.of(
        "int layer(int,int)", "int left(int)", "int swell(int,int)", "int ship(int,int,int)", "int turn(int)",
        "int days(int)", "int about(int,int)", "int cargo(int,int)", "int loaded(int,int)", "int boat(int,int)",
        "int sample(int,int)", "int type(long,int)", "int clear()", "int charter(int)", "int term(int,int)",
        "int owed(int,int)", "int shared(int,int)", "int delay(int)", "int letter(int,int)", "int foretold()",
        "int count(int)", "long trace()");

    private static final Set<Class<?>> CONSTANTS = Set.of(int.class, long.class, boolean.class, char.class,
        String.class, int[].class, long[].class, char[].class, byte[].class);

    private static final List<String> NOT_ALLOWED = List.of(
        "\\bthrow\\b", "\\btry\\b", "\\bcatch\\b", "\\bsynchronized\\b", "\\bassert\\b", "\\bpackage\\b", "::",
        "Exact\\b", "\\bstatic\\s*\\{", "\\bimport\\s+(?!java\\.util\\.(ArrayList|List|Arrays|Iterator);)");

    public static void main(String[] args) throws IOException {
        constants();
        members();
        classesInside();
        fieldsAndMethods();
        words();
        due.end();
    }

    private static void constants() {
        due.is("BAD", RockRoad.BAD, -1);
        due.is("STATE", RockRoad.STATE, -2);
        due.is("FULL", RockRoad.FULL, -3);
        due.is("NONE", RockRoad.NONE, -9);
    }

    private static void members() {
        due.is("the class is public and final", RockRoad.class.getModifiers() & (Modifier.PUBLIC | Modifier.FINAL),
            Modifier.PUBLIC | Modifier.FINAL);
        due.is("constructors", RockRoad.class.getDeclaredConstructors().length, 1);
        due.is("public constructors", RockRoad.class.getConstructors().length, 1);
        Set<String> open = new TreeSet<>();
        for (Method method : RockRoad.class.getDeclaredMethods()) {
            due.holds(method.getName() + " is no lambda", !method.getName().startsWith("lambda$"));
            if (!Modifier.isPrivate(method.getModifiers())) {
                open.add(signature(method));
            }
        }
        due.holds("the public methods are those of the document: " + open, open.equals(METHODS));
        int openFields = 0;
        for (Field field : RockRoad.class.getDeclaredFields()) {
            openFields += Modifier.isPrivate(field.getModifiers()) ? 0 : 1;
        }
        due.is("fields that can be seen", openFields, 4);
    }

    private static String signature(Method method) {
        StringBuilder text = new StringBuilder(method.getReturnType().getName());
        text.append(' ').append(method.getName()).append('(');
        for (Class<?> type : method.getParameterTypes()) {
            text.append(text.charAt(text.length() - 1) == '(' ? "" : ",").append(type.getName());
        }
        return text.append(')').toString();
    }

    private static void classesInside() {
        Class<?>[] inside = RockRoad.class.getDeclaredClasses();
        due.holds("some twelve classes at most", inside.length <= 12);
        for (Class<?> one : inside) {
            due.holds(one.getName() + " is static", Modifier.isStatic(one.getModifiers()));
            due.holds(one.getName() + " is not public", !Modifier.isPublic(one.getModifiers()));
        }
    }

    private static void fieldsAndMethods() {
        List<Class<?>> classes = new ArrayList<>(List.of(RockRoad.class.getDeclaredClasses()));
        classes.add(RockRoad.class);
        for (Class<?> one : classes) {
            int fields = 0;
            for (Field field : one.getDeclaredFields()) {
                fields += Modifier.isStatic(field.getModifiers()) ? 0 : 1;
                due.holds(one.getName() + "." + field.getName() + " is a constant, if it is static", isAllowed(field));
            }
            due.holds(one.getName() + " has some twenty fields at most", fields <= 20);
            for (Method method : one.getDeclaredMethods()) {
                String name = one.getName() + "." + method.getName();
                due.holds(name + " has seven parameters at most", method.getParameterCount() <= 7);
                due.holds(name + " bears a name of its own, if it is private",
                    !Modifier.isPrivate(method.getModifiers()) || !isOfFace(method.getName()));
            }
        }
    }

    private static boolean isAllowed(Field field) {
        if (!Modifier.isStatic(field.getModifiers())) {
            return true;
        }
        Class<?> type = field.getType();
        boolean ofEnum = type.isEnum() || type.isArray() && type.getComponentType().isEnum();
        return Modifier.isFinal(field.getModifiers()) && (ofEnum || CONSTANTS.contains(type));
    }

    private static boolean isOfFace(String name) {
        for (String signature : METHODS) {
            if (signature.contains(" " + name + "(")) {
                return true;
            }
        }
        return false;
    }

    private static void words() throws IOException {
        String source = Files.readString(Path.of("src/main/java/RockRoad.java"));
        String code = source.replaceAll("(?s)/\\*.*?\\*/", " ").replaceAll("//[^\n]*", " ");
        for (String word : NOT_ALLOWED) {
            due.holds("the source does without " + word, !Pattern.compile(word).matcher(code).find());
        }
    }
}

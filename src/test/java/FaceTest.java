import java.io.IOException;
import java.lang.reflect.Constructor;
import java.lang.reflect.Field;
import java.lang.reflect.Method;
import java.lang.reflect.Modifier;
import java.nio.file.Files;
import java.nio.file.Path;
import java.util.Arrays;
import java.util.Set;
import java.util.TreeSet;
import java.util.regex.Pattern;

/** The public face of the document, and those rules of the language that can be seen from outside. */
final class FaceTest {
    private static final Path SOURCE = Path.of("src/main/java/GroupSeats.java");

    private static final String[] METHODS = {
        "open(int,int)", "shut(int)", "strict(int,boolean)", "list(int)", "book(int,int)", "cancel(int)",
        "leave(int)", "seat(int,int)", "has(int,int)", "about(int,int)", "told(int)", "waiting(int)"};

    private static final String[] CONSTANTS = {
        "OUTSIDE", "STATE", "ROOM", "SHORT", "SHUT", "NO_ROW", "WAITS", "NONE"};

    private static final String[] UNWANTED = {
        "\\bthrow\\b", "\\btry\\b", "\\bcatch\\b", "\\bsynchronized\\b", "\\bassert\\b", "\\bimport\\b",
        "\\bpackage\\b", "->", "::", "\\bstatic\\s*\\{", "Exact\\b", "\\bhashCode\\b", "\\btoString\\b"};

    public static void main(String[] args) throws Exception {
        Check check = new Check("face");
        check.due("modifiers of the class", GroupSeats.class.getModifiers(), Modifier.PUBLIC | Modifier.FINAL);
        constants(check);
        constructor(check);
        methods(check);
        classesInside(check);
        source(check);
        check.end();
    }

    private static void constants(Check check) throws IllegalAccessException {
        Set<String> seen = new TreeSet<>();
        for (Field field : GroupSeats.class.getDeclaredFields()) {
            boolean isStatic = Modifier.isStatic(field.getModifiers());
            check.holds(field + " is final if it is static", !isStatic || Modifier.isFinal(field.getModifiers()));
            if (!Modifier.isPrivate(field.getModifiers())) {
                check.holds(field + " is a public static int", Modifier.isPublic(field.getModifiers())
                        && isStatic && field.getType() == int.class);
                seen.add(field.getName());
                check.due(field.getName(), field.getInt(null), -1 - Arrays.asList(CONSTANTS).indexOf(field.getName()));
            }
        }
        check.holds("the constants are " + seen, seen.equals(new TreeSet<>(Arrays.asList(CONSTANTS))));
    }

    private static void constructor(Check check) {
        Constructor<?>[] all = GroupSeats.class.getDeclaredConstructors();
        check.due("constructors", all.length, 1);
        check.due("its parameters", all[0].getParameterCount(), 0);
        check.holds("it is public", Modifier.isPublic(all[0].getModifiers()));
    }

    private static void methods(Check check) {
        Set<String> seen = new TreeSet<>();
        for (Method method : GroupSeats.class.getDeclaredMethods()) {
            if (!Modifier.isPrivate(method.getModifiers())) {
                check.due("modifiers of " + method, method.getModifiers(), Modifier.PUBLIC);
                check.holds(method + " answers an int", method.getReturnType() == int.class);
                seen.add(signature(method));
            }
        }
        check.holds("the methods are " + seen, seen.equals(new TreeSet<>(Arrays.asList(METHODS))));
        check.due("no other method bears a public one's name", timesOfPublicNames(), METHODS.length);
    }

    private static String signature(Method method) {
        StringBuilder text = new StringBuilder(method.getName()).append('(');
        for (Class<?> type : method.getParameterTypes()) {
            text.append(text.charAt(text.length() - 1) == '(' ? "" : ",").append(type.getName());
        }
        return text.append(')').toString();
    }

    private static int timesOfPublicNames() {
        Set<String> names = new TreeSet<>();
        for (String method : METHODS) {
            names.add(method.substring(0, method.indexOf('(')));
        }
        int times = countNamed(GroupSeats.class, names);
        for (Class<?> inside : GroupSeats.class.getDeclaredClasses()) {
            times += countNamed(inside, names);
        }
        return times;
    }

    private static int countNamed(Class<?> type, Set<String> names) {
        int count = 0;
        for (Method method : type.getDeclaredMethods()) {
            count += names.contains(method.getName()) ? 1 : 0;
        }
        return count;
    }

    private static void classesInside(Check check) {
        for (Class<?> inside : GroupSeats.class.getDeclaredClasses()) {
            check.holds(inside + " is static", Modifier.isStatic(inside.getModifiers()));
            check.holds(inside + " is not public", !Modifier.isPublic(inside.getModifiers())
                    && !Modifier.isProtected(inside.getModifiers()));
        }
    }

    private static void source(Check check) throws IOException {
        String code = Files.readString(SOURCE).replaceAll("(?s)/\\*.*?\\*/", "").replaceAll("//[^\n]*", "");
        for (String unwanted : UNWANTED) {
            check.holds("the source is without " + unwanted, !Pattern.compile(unwanted).matcher(code).find());
        }
    }
}

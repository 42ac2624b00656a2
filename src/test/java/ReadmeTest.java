import java.lang.reflect.Method;
import java.nio.file.Files;
import java.nio.file.Path;
import java.util.regex.Matcher;
import java.util.regex.Pattern;

/** Makes the calls of README.md's example: each answers what stands behind it, and each method is told of. */
final class ReadmeTest {
    private static final Path README = Path.of("README.md");
    private static final Pattern CALL = Pattern.compile("(int booking = )?hall\\.(\\w+)\\(([^)]*)\\); +// (\\w+): .*");

    private final Check check = new Check("readme");
    private final GroupSeats hall = new GroupSeats();
    private int booking = -1;

    public static void main(String[] args) throws Exception {
        String text = Files.readString(README);
        ReadmeTest test = new ReadmeTest();
        test.example(text);
        test.everyMethod(text);
        test.check.end();
    }

    private void example(String text) throws Exception {
        int begin = text.indexOf("```java\n");
        int end = text.indexOf("```\n", begin + 1);
        check.holds("there is an example", begin >= 0 && end > begin);
        for (String line : text.substring(begin, end).split("\n")) {
            Matcher call = CALL.matcher(line);
            if (call.matches()) {
                make(call);
            } else {
                check.holds("\"" + line + "\" is no call without its answer", !line.contains("hall."));
            }
        }
    }

    private void make(Matcher call) throws Exception {
        String[] given = call.group(3).split(", ");
        Object[] arguments = new Object[given.length];
        for (int i = 0; i < given.length; i++) {
            arguments[i] = given[i].equals("booking") ? booking : Integer.parseInt(given[i]);
        }
        int got = (Integer) named(call.group(2)).invoke(hall, arguments);
        check.due(call.group(2) + "(" + call.group(3) + ")", got, number(call.group(4)));
        if (call.group(1) != null) {
            booking = got;
        }
    }

    private static Method named(String name) {
        for (Method method : GroupSeats.class.getDeclaredMethods()) {
            if (method.getName().equals(name)) {
                return method;
            }
        }
        throw new IllegalArgumentException("README.md calls a method that is none: " + name);
    }

    private static int number(String answer) throws Exception {
        boolean isNumber = Character.isDigit(answer.charAt(0));
        return isNumber ? Integer.parseInt(answer) : GroupSeats.class.getField(answer).getInt(null);
    }

    private void everyMethod(String text) {
        for (Method method : GroupSeats.class.getMethods()) {
            if (method.getDeclaringClass() == GroupSeats.class) {
                check.holds("a row of the table tells of " + method.getName(), text.contains("\n| `" + method.getName() + "("));
            }
        }
    }
}

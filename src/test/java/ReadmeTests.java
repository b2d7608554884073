import java.io.IOException;
import java.lang.reflect.Method;
import java.lang.reflect.Modifier;
import java.nio.charset.StandardCharsets;
import java.nio.file.Files;
import java.nio.file.Path;
import java.util.regex.Matcher;
import java.util.regex.Pattern;

/** README.md's example, line by line: each call answers what stands behind it. Run from the project's root. */
public final class ReadmeTests extends OfficeTests {
    private static final Pattern EXAMPLE = Pattern.compile("(?s)```java\n(.*?)```");
    private static final Pattern TYPED = Pattern.compile("for \\(char c : \"(.*)\"\\.toCharArray\\(\\)\\) office\\.letter\\(c\\);");
    private static final Pattern CALL = Pattern.compile("office\\.(\\w+)\\((.*)\\); +// (-?\\w+)(:.*)?");

    public static void main(String[] args) throws IOException, ReflectiveOperationException {
        String readme = Files.readString(Path.of("README.md"), StandardCharsets.UTF_8);
        Matcher example = EXAMPLE.matcher(readme);
        due.holds("an example in Java", example.find());
        play(example.group(1));
        for (Method method : RunoffOffice.class.getDeclaredMethods()) {
            if (Modifier.isPublic(method.getModifiers())) {
                due.holds("it tells of " + method.getName(), readme.contains(method.getName() + "("));
            }
        }
        due.holds("it tells how to run the tests", readme.contains("`bash .ci/run`"));
        due.end("ReadmeTests");
    }

    private static void play(String example) throws ReflectiveOperationException {
        String[] lines = example.split("\n");
        due.holds("the first line", lines[0].equals("RunoffOffice office = new RunoffOffice();"));
        RunoffOffice office = new RunoffOffice();
        for (int i = 1; i < lines.length; i++) {
            Matcher typed = TYPED.matcher(lines[i]);
            Matcher call = CALL.matcher(lines[i]);
            if (typed.matches()) {
                type(office, typed.group(1));
            } else if (call.matches()) {
                due.is(lines[i], answer(office, call.group(1), call.group(2)), number(call.group(3)));
            } else {
                due.holds("a line that tells a call: " + lines[i], lines[i].isEmpty());
            }
        }
    }

    private static long answer(RunoffOffice office, String name, String given) throws ReflectiveOperationException {
        String[] words = given.isEmpty() ? new String[0] : given.split(", ");
        for (Method method : RunoffOffice.class.getMethods()) {
            if (method.getName().equals(name) && method.getParameterCount() == words.length) {
                Object[] arguments = new Object[words.length];
                for (int i = 0; i < words.length; i++) {
                    boolean flag = method.getParameterTypes()[i] == boolean.class;
                    arguments[i] = flag ? (Object) Boolean.valueOf(words[i]) : Integer.valueOf(words[i]);
                }
                return ((Number) method.invoke(office, arguments)).longValue();
            }
        }
        due.holds("a call " + name + " of " + words.length, false);
        return 0;
    }

    private static long number(String told) throws ReflectiveOperationException {
        return Character.isLetter(told.charAt(0)) ? RunoffOffice.class.getField(told).getInt(null) : Long.parseLong(told);
    }
}

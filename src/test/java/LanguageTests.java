import java.io.IOException;
import java.lang.reflect.Field;
import java.lang.reflect.Method;
import java.lang.reflect.Modifier;
import java.nio.charset.StandardCharsets;
import java.nio.file.Files;
import java.nio.file.Path;
import java.util.Set;
import java.util.TreeSet;
import java.util.regex.Matcher;
import java.util.regex.Pattern;

/** The face, and those rules of LANGUAGE.md that can be seen from outside or in the text. Run from the project's root. */
public final class LanguageTests {
    private static final Due due = new Due();
    private static final Set<String> FACE = new TreeSet<>(Set.of(
        "int letter(int)", "int blank()", "int fault()", "int take()", "int drop(boolean,int)", "int storm(int,int)",
        "int divided(int,int)", "int unit(int,int)", "int made(int,int,int)", "int missed(int,int)", "int sum(int,int)",
        "int other(int,int,int,int)", "long best(int,int,int,int)", "long loss(int,int,int)",
        "long press(int,int,int,int)", "int nothing(int,int)", "int keep(int,int,int)", "int count(int)",
        "long digest()"));
    private static final Set<String> CONSTANTS = new TreeSet<>(Set.of("NONE", "UNKNOWN", "OUTSIDE", "STATE", "FULL"));

    public static void main(String[] args) throws IOException {
        Set<String> names = face();
        Class<?>[] inside = RunoffOffice.class.getDeclaredClasses();
        due.holds("at most twelve classes", inside.length < 12);
        for (Class<?> nested : inside) {
            due.holds(nested + " is static and not public",
                Modifier.isStatic(nested.getModifiers()) && !Modifier.isPublic(nested.getModifiers())
                    && !Modifier.isProtected(nested.getModifiers()));
            members(nested, names);
        }
        members(RunoffOffice.class, Set.of());
        text(Files.readString(Path.of("src/main/java/RunoffOffice.java"), StandardCharsets.ISO_8859_1));
        due.end("LanguageTests");
    }

    private static Set<String> face() {
        Set<String> found = new TreeSet<>();
        Set<String> names = new TreeSet<>();
        for (Method method : RunoffOffice.class.getDeclaredMethods()) {
            if (!Modifier.isPrivate(method.getModifiers())) {
                String told = method.toString().replaceAll("^public ", "").replace("RunoffOffice.", "");
                found.add(told);
                names.add(method.getName());
            }
        }
        due.holds("the methods are " + FACE + ", not " + found, found.equals(FACE));
        for (Method method : RunoffOffice.class.getDeclaredMethods()) {
            if (Modifier.isPrivate(method.getModifiers())) {
                due.holds(method + " has a name of its own", !names.contains(method.getName()));
            }
        }
        Set<String> constants = new TreeSet<>();
        for (Field field : RunoffOffice.class.getDeclaredFields()) {
            if (!Modifier.isPrivate(field.getModifiers())) {
                constants.add(field.getName());
                due.holds(field + " is an int constant", field.toString().startsWith("public static final int "));
            }
        }
        due.holds("the constants are " + CONSTANTS + ", not " + constants, constants.equals(CONSTANTS));
        due.is("constructors", RunoffOffice.class.getDeclaredConstructors().length, 1);
        due.is("public constructors", RunoffOffice.class.getConstructors().length, 1);
        int kind = RunoffOffice.class.getModifiers();
        due.holds("public and final", Modifier.isPublic(kind) && Modifier.isFinal(kind));
        return names;
    }

    private static void members(Class<?> type, Set<String> taken) {
        int own = 0;
        for (Field field : type.getDeclaredFields()) {
            boolean fixed = Modifier.isStatic(field.getModifiers());
            own += fixed ? 0 : 1;
            due.holds(field + " is final if static", !fixed || Modifier.isFinal(field.getModifiers()));
            due.holds(field + " is a number if static", !fixed || field.getType() == int.class || field.getType() == long.class);
        }
        due.holds(type + " has at most twenty fields", own <= 20);
        for (Method method : type.getDeclaredMethods()) {
            due.holds(method + " has at most seven parameters", method.getParameterCount() <= 7);
            due.holds(method + " has a name of its own", !taken.contains(method.getName()));
        }
    }

    private static void text(String source) {
        String code = source.replaceAll("(?s)/\\*.*?\\*/", "").replaceAll("//[^\n]*", "");
        String[] forbidden = {"package", "import", "throw", "throws", "try", "catch", "finally", "synchronized", "assert",
            "System", "Thread", "Runtime", "hashCode", "toString", "volatile", "native", "goto"};
        for (String word : forbidden) {
            due.holds("no word " + word, !Pattern.compile("\\b" + word + "\\b").matcher(code).find());
        }
        for (String sign : new String[] {"->", "::", "static {", "while (true)", "for (;;)", "@"}) {
            due.holds("no " + sign, !code.contains(sign));
        }
        due.holds("signs 1 to 127", source.chars().allMatch(sign -> sign > 0 && sign < 128));
        methodsAreShort(source);
        nothingIsMadeByCalls(code);
        onlyMathIsUsed(code);
    }

    /** Names that begin great and go on small are classes: the file's own, or Math with functions that can't throw. */
    private static void onlyMathIsUsed(String code) {
        Set<String> known = new TreeSet<>(Set.of("RunoffOffice", "Math"));
        for (Class<?> nested : RunoffOffice.class.getDeclaredClasses()) {
            known.add(nested.getSimpleName());
        }
        Matcher name = Pattern.compile("\\b[A-Z][A-Za-z]*[a-z][A-Za-z]*\\b").matcher(code);
        while (name.find()) {
            due.holds("a class that may be used: " + name.group(), known.contains(name.group()));
        }
        Matcher function = Pattern.compile("\\bMath\\.(\\w+)").matcher(code);
        while (function.find()) {
            due.holds("Math." + function.group(1), Set.of("abs", "max", "min").contains(function.group(1)));
        }
    }

    /** A method's head and its closing brace stand at the same depth, and nothing else of it does. */
    private static void methodsAreShort(String source) {
        for (String depth : new String[] {"    ", "        "}) {
            Pattern body = Pattern.compile("(?m)^" + depth + "(?! )[^\n]*\\) \\{\n((?:" + depth + " [^\n]*\n|\n)*)" + depth + "\\}");
            Matcher method = body.matcher(source);
            while (method.find()) {
                due.holds("a short method at " + method.group().split("\n")[0], method.group(1).lines().count() < 60);
            }
        }
    }

    /** All objects and arrays are made with the office itself: as a field, or in its constructor. */
    private static void nothingIsMadeByCalls(String code) {
        for (String line : code.split("\n")) {
            if (Pattern.compile("\\bnew\\b").matcher(line).find()) {
                boolean field = line.matches("\\s+(private )?final [A-Za-z]+(\\[\\])? [A-Za-z]+ = new .*;");
                boolean filled = line.matches("            held(Storms|Units)\\[i\\] = new (Storm|Unit)\\(\\);");
                due.holds("made with the office: " + line.trim(), field || filled);
            }
        }
    }
}

import java.io.IOException;
import java.lang.reflect.InvocationTargetException;
import java.lang.reflect.Method;
import java.lang.reflect.Modifier;
import java.nio.file.Files;
import java.nio.file.Path;
import java.util.Set;
import java.util.TreeSet;
import java.util.regex.Matcher;
import java.util.regex.Pattern;

/** Makes every call that README.md shows, one after the other on one object: each must answer what stands beside it. */
public final class ReadmeTests {
    private static final Path README = Path.of("README.md");
    private static final Pattern CALL = Pattern.compile("    mill\\.(\\w+)\\(([^)]*)\\); +// (.*)");
    private static final Pattern THROWN = Pattern.compile("throws (\\w+)(:.*)?");
    private static final Pattern ANSWER = Pattern.compile("(\"[^\"]*\"|-?\\d+|true|false)(:.*)?");
    private static int wrong = 0;

    public static void main(String[] args) throws IOException {
        Set<String> answered = new TreeSet<>();
        Rangecodermill mill = new Rangecodermill();
        int calls = 0;
        for (String line : Files.readAllLines(README)) {
            if (line.startsWith("    mill.")) {
                calls++;
                tryLine(mill, line, answered);
            }
        }
        holds(calls > 0, "README.md shows no call");
        for (Method m : Rangecodermill.class.getDeclaredMethods()) {
            holds(!Modifier.isPublic(m.getModifiers()) || answered.contains(m.getName()), "not shown: " + m.getName());
        }
        System.out.println(calls + " calls of README.md, " + wrong + " wrong");
        if (wrong != 0) {
            System.exit(1);
        }
    }

    private static void holds(boolean isSo, String what) {
        if (!isSo) {
            wrong++;
            System.out.println("wrong: " + what);
        }
    }

    private static void tryLine(Rangecodermill mill, String line, Set<String> answered) {
        Matcher call = CALL.matcher(line);
        if (!call.matches()) {
            holds(false, "not a call with an answer: " + line);
            return;
        }
        Matcher thrown = THROWN.matcher(call.group(3));
        Matcher answer = ANSWER.matcher(call.group(3));
        long before = mill.digest();
        String got = answerOf(mill, call.group(1), call.group(2));
        if (thrown.matches()) {
            holds(got.equals(thrown.group(1)), line + " <- " + got);
            holds(mill.digest() == before, "changes something: " + line);
        } else {
            holds(answer.matches() && got.equals(answer.group(1)), line + " <- " + got);
            answered.add(call.group(1));
        }
    }

    private static String answerOf(Rangecodermill mill, String name, String written) {
        for (Method m : Rangecodermill.class.getDeclaredMethods()) {
            if (Modifier.isPublic(m.getModifiers()) && m.getName().equals(name)) {
                try {
                    Object got = m.invoke(mill, arguments(written));
                    return got instanceof String ? "\"" + got + "\"" : String.valueOf(got);
                } catch (InvocationTargetException e) {
                    return e.getCause().getClass().getSimpleName();
                } catch (IllegalAccessException | IllegalArgumentException e) {
                    return "not callable so: " + e;
                }
            }
        }
        return "no such method";
    }

    private static Object[] arguments(String written) {
        String[] words = written.isEmpty() ? new String[0] : written.split(", ");
        Object[] arguments = new Object[words.length];
        for (int n = 0; n < words.length; n++) {
            boolean isNumber = words[n].matches("-?\\d+");
            arguments[n] = isNumber ? (Object) Integer.valueOf(words[n]) : (Object) Boolean.valueOf(words[n]);
        }
        return arguments;
    }
}

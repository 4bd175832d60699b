import java.io.IOException;
import java.lang.reflect.InvocationTargetException;
import java.lang.reflect.Method;
import java.lang.reflect.Modifier;
import java.nio.file.Files;
import java.nio.file.Path;
import java.util.HashMap;
import java.util.Map;

/**
 * Runs of calls with written answers, in src/test/second-reading.txt: "new" begins a run, every other line is a call and
 * its answer behind a tab. The answers come from a second program, in another language, that was written from the document
 * alone; so they stand even if the class and the oracle of OracleRuns should go wrong in the same way.
 */
public final class SecondReadingTests {
    private static final Path RUNS = Path.of("src/test/second-reading.txt");
    private static final Map<String, Method> FACE = new HashMap<>();

    public static void main(String[] args) throws IOException, IllegalAccessException {
        for (Method m : Rangecodermill.class.getDeclaredMethods()) {
            if (Modifier.isPublic(m.getModifiers())) {
                FACE.put(m.getName(), m);
            }
        }
        int runs = 0;
        int calls = 0;
        int wrong = 0;
        Rangecodermill x = new Rangecodermill();
        for (String line : Files.readAllLines(RUNS)) {
            if (line.equals("new")) {
                runs++;
                x = new Rangecodermill();
                continue;
            }
            int tab = line.indexOf('\t');
            String got = answerOf(x, line.substring(0, tab).split(" "));
            calls++;
            if (!got.equals(line.substring(tab + 1))) {
                wrong++;
                System.out.println("run " + runs + ": " + line + " <- " + got);
            }
        }
        System.out.println(runs + " runs, " + calls + " calls, " + wrong + " wrong");
        if (wrong != 0 || calls == 0) {
            System.exit(1);
        }
    }

    private static String answerOf(Rangecodermill x, String[] words) throws IllegalAccessException {
        Method call = FACE.get(words[0]);
        Object[] arguments = new Object[words.length - 1];
        for (int n = 0; n < arguments.length; n++) {
            boolean isNumber = call.getParameterTypes()[n] == int.class;
            arguments[n] = isNumber ? (Object) Integer.valueOf(words[n + 1]) : (Object) Boolean.valueOf(words[n + 1]);
        }
        try {
            Object got = call.invoke(x, arguments);
            return got instanceof String ? "\"" + got + "\"" : String.valueOf(got);
        } catch (InvocationTargetException e) {
            return "throws " + e.getCause().getClass().getSimpleName();
        }
    }
}

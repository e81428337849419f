import java.io.IOException;
import java.lang.reflect.Method;
import java.lang.reflect.Modifier;
import java.nio.charset.StandardCharsets;
import java.nio.file.Files;
import java.nio.file.Path;
import java.util.HashMap;
import java.util.Map;
import java.util.regex.Matcher;
import java.util.regex.Pattern;

/** README.md: its run answers what stands beside each call, and each call stands in a table with its ERRORS. */
public final class ReadmeTest {
    private static final Pattern CALL = Pattern.compile("x\\.(\\w+)\\((.*?)\\);\\s+// (-?\\d+)(:.*)?");
    private static final Pattern ROW = Pattern.compile("\\| `(\\w+)\\((.*?)\\)` \\|[^|]+\\|([^|]*)\\|");

    private ReadmeTest() {
    }

    public static void main(String[] args) throws Exception {
        String readme = Files.readString(Path.of("README.md"), StandardCharsets.UTF_8);
        Map<String, Method> face = new HashMap<>();
        for (Method m : CoatsByLot.class.getDeclaredMethods()) {
            if (Modifier.isPublic(m.getModifiers())) {
                face.put(m.getName(), m);
            }
        }
        run(readme, face);
        tables(readme, face);
        Due.end();
    }

    private static void run(String readme, Map<String, Method> face) throws ReflectiveOperationException {
        CoatsByLot x = new CoatsByLot();
        int calls = 0;
        for (String line : readme.split("\n")) {
            Matcher m = CALL.matcher(line);
            if (m.matches()) {
                Method told = face.get(m.group(1));
                Number answer = (Number) told.invoke(x, numbers(told, m.group(2)));
                Due.due("README's " + line, answer.longValue(), Long.parseLong(m.group(3)));
                calls++;
            } else {
                Due.due("a call without an answer: " + line, line.startsWith("x.") ? 1 : 0, 0);
            }
        }
        Due.due("that README has a run", calls > 0 ? 1 : 0, 1);
    }

    private static Object[] numbers(Method m, String told) {
        String[] parts = told.isEmpty() ? new String[0] : told.split(", ");
        Object[] numbers = new Object[parts.length];
        for (int i = 0; i < parts.length; i++) {
            long v = Long.decode(parts[i].replace("L", ""));
            if (m.getParameterTypes()[i] == long.class) {
                numbers[i] = v;
            } else {
                numbers[i] = (int) v;
            }
        }
        return numbers;
    }

    /** The ERRORS of each call as the document tells them under its promise. */
    private static void tables(String readme, Map<String, Method> face) throws IOException {
        Map<String, String> errors = new HashMap<>();
        Matcher m = ROW.matcher(readme);
        while (m.find()) {
            errors.put(m.group(1), m.group(3).replaceAll(" \\(.*?\\)| of [^,]+", "").trim());
            int parameters = m.group(2).isEmpty() ? 0 : m.group(2).split(", ").length;
            Method told = face.get(m.group(1));
            Due.due("README's parameters of " + m.group(1), parameters, told == null ? -1 : told.getParameterCount());
        }
        String document = Files.readString(Path.of("../shared/DOC.md"), StandardCharsets.UTF_8);
        for (String name : face.keySet()) {
            Matcher promise = Pattern.compile("\n`\\w+ " + name + "\\(.*?\\)`: (.*)\n").matcher(document);
            Due.due("that the document promises " + name, promise.find() ? 1 : 0, 1);
            String due = errorsIn(promise.group(1));
            String got = errors.getOrDefault(name, "no row");
            Due.due("README's ERRORS of " + name + " are " + got + ", the document's " + due + ": that they differ",
                    got.equals(due) ? 0 : 1, 0);
        }
    }

    /** Each ERROR that stands at the begin of a sentence: those are told in the order in which they are asked. */
    private static String errorsIn(String promise) {
        StringBuilder all = new StringBuilder();
        Matcher m = Pattern.compile("(?<=[.;] )(BEYOND|NONE|STATE|FULL|KIND)(?=[.: ])").matcher(promise);
        String last = "";
        while (m.find()) {
            if (!m.group(1).equals(last)) {
                all.append(all.length() == 0 ? "" : ", ").append(m.group(1));
            }
            last = m.group(1);
        }
        return all.toString();
    }
}

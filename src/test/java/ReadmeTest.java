import java.io.IOException;
import java.lang.reflect.Method;
import java.lang.reflect.Modifier;
import java.nio.file.Files;
import java.nio.file.Path;
import java.util.Arrays;
import java.util.HashMap;
import java.util.List;
import java.util.Map;
import java.util.regex.Matcher;
import java.util.regex.Pattern;

/** README.md's examples answer what their comments say, and its tables tell each call as it is. */
public final class ReadmeTest {
    private static final String MAKE = "GoodHalfEmpty inn = new GoodHalfEmpty();";
    private static final Pattern CALL = Pattern.compile("inn\\.(\\w+)\\(([^)]*)\\);\\s*// (-?\\d+)\\b.*");
    private static final Pattern TELL = Pattern.compile("tell\\(inn, \"([^\"]*)\"\\);\\s*// (-?\\d+)\\b.*");
    private static final Pattern ROW = Pattern.compile("\\| `(\\w+)\\(([^)]*)\\)` \\|([^|]*)\\|([^|]*)\\|([^|]*)\\|");
    private static final Pattern REFUSED = Pattern.compile("(-4|1000000004), (-6|1000000006)\\b.*");
    private static final Pattern RANGE = Pattern.compile("\\w+ (\\d+) \\.\\. (\\d+)\\b.*");

    private static int wrong = 0;
    private static int examples = 0;
    private static int ranges = 0;

    private static void due(String what, Object got, Object want) {
        if (!want.equals(got)) {
            wrong++;
            System.out.println(what + " is " + got + ", due is " + want);
        }
    }

    /** How many arguments each call takes. */
    private static Map<String, Integer> face() {
        Map<String, Integer> all = new HashMap<>();
        for (Method m : GoodHalfEmpty.class.getDeclaredMethods()) {
            if (Modifier.isPublic(m.getModifiers())) {
                all.put(m.getName(), m.getParameterCount());
            }
        }
        return all;
    }

    private static int ask(GoodHalfEmpty inn, String name, Object... arguments) throws ReflectiveOperationException {
        Class<?>[] types = new Class<?>[arguments.length];
        Arrays.fill(types, int.class);
        return (int) GoodHalfEmpty.class.getMethod(name, types).invoke(inn, arguments);
    }

    private static Object[] arguments(String text) {
        String[] parts = text.isEmpty() ? new String[0] : text.split(", ");
        Object[] all = new Object[parts.length];
        for (int i = 0; i < parts.length; i++) {
            boolean isSign = parts[i].length() == 3 && parts[i].charAt(0) == '\'';
            all[i] = isSign ? (int) parts[i].charAt(1) : Integer.parseInt(parts[i]);
        }
        return all;
    }

    private static int tell(GoodHalfEmpty inn, String text) {
        for (char c : text.toCharArray()) {
            inn.letter(c);
        }
        return inn.town();
    }

    private static void example(GoodHalfEmpty inn, String line) throws ReflectiveOperationException {
        Matcher call = CALL.matcher(line);
        Matcher tell = TELL.matcher(line);
        if (call.matches()) {
            due(line, ask(inn, call.group(1), arguments(call.group(2))), Integer.parseInt(call.group(3)));
            examples++;
        } else if (tell.matches()) {
            due(line, tell(inn, tell.group(1)), Integer.parseInt(tell.group(2)));
            examples++;
        } else if (line.contains("inn.") || line.contains("tell(")) {
            due("an example without its answer", line, "");
        }
    }

    private static void examples(List<String> lines) throws ReflectiveOperationException {
        GoodHalfEmpty inn = null;
        for (String line : lines) {
            if (line.equals(MAKE)) {
                inn = new GoodHalfEmpty();
            } else if (line.startsWith("```")) {
                inn = null;
            } else if (inn != null) {
                example(inn, line);
            }
        }
        due("examples in number", examples > 30, true);
    }

    private static void calls(List<String> lines) throws ReflectiveOperationException {
        Map<String, Integer> left = face();
        for (String line : lines) {
            Matcher row = ROW.matcher(line);
            if (row.matches()) {
                String name = row.group(1);
                int arguments = row.group(2).isEmpty() ? 0 : row.group(2).split(", ").length;
                due("arguments of " + name, left.remove(name), arguments);
                range(name, arguments, row.group(3).trim(), row.group(5).trim());
            }
        }
        due("calls with a range in number", ranges, 12);
        due("calls that the table lacks", left.keySet().toString(), "[]");
    }

    /** Where a row tells a range of the first argument, and refusals, the call refuses what is just beyond. */
    private static void range(String name, int arguments, String takes, String refuses)
            throws ReflectiveOperationException {
        Matcher range = RANGE.matcher(takes);
        Matcher refused = REFUSED.matcher(refuses);
        if (!range.matches() || !refused.matches()) {
            return;
        }
        int least = Integer.parseInt(range.group(1));
        int greatest = Integer.parseInt(range.group(2));
        GoodHalfEmpty inn = new GoodHalfEmpty();
        Object[] all = new Object[arguments];
        Arrays.fill(all, 0);
        all[0] = least - 1;
        due(name + " below " + least, ask(inn, name, all), Integer.parseInt(refused.group(1)));
        all[0] = greatest + 1;
        due(name + " above " + greatest, ask(inn, name, all), Integer.parseInt(refused.group(2)));
        all[0] = least;
        ask(inn, name, all);
        all[0] = greatest;
        ask(inn, name, all);
        due(name + " refused beyond its range alone", inn.count(14) + inn.count(16), 2);
        ranges++;
    }

    public static void main(String[] args) throws IOException, ReflectiveOperationException {
        List<String> lines = Files.readAllLines(Path.of("README.md"));
        examples(lines);
        calls(lines);
        System.out.println(wrong == 0 ? examples + " examples answer as the README says" : wrong + " wrong");
        if (wrong != 0) {
            System.exit(1);
        }
    }
}

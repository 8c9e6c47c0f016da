import java.lang.reflect.Method;
import java.lang.reflect.Modifier;
import java.nio.file.Files;
import java.nio.file.Path;
import java.util.Arrays;
import java.util.Set;
import java.util.TreeSet;
import java.util.regex.Matcher;
import java.util.regex.Pattern;

/** The README's table of calls: on one new object each answers what stands there, and no call of the class is left out. */
public final class ReadmeTests {
    private static final Pattern ROW = Pattern.compile("\\| `(\\w+)\\((.*?)\\)` \\| `(-?\\w+)` \\| .+ \\| \\d+ \\|");

    private static int wrong = 0;

    private static void due(String what, Object got, Object want) {
        if (!got.equals(want)) {
            wrong++;
            System.out.println(what + ": " + got + ", due is " + want);
        }
    }

    public static void main(String[] args) throws Exception {
        OddUmbrellas office = new OddUmbrellas();
        Set<String> shown = new TreeSet<>();
        for (String line : Files.readAllLines(Path.of("README.md"))) {
            Matcher row = ROW.matcher(line);
            if (row.matches()) {
                shown.add(row.group(1));
                due(line, answer(office, row.group(1), row.group(2)), numberOf(row.group(3)));
            } else {
                due("a row that is not of the form: " + line, line.startsWith("| `"), false);
            }
        }
        due("calls shown", shown, callsOfTheFace());
        System.out.println(wrong == 0 ? "ReadmeTests: all is as due" : "ReadmeTests: " + wrong + " things are not as due");
        if (wrong != 0) {
            System.exit(1);
        }
    }

    private static Object answer(OddUmbrellas office, String call, String written) throws Exception {
        Object[] numbers = written.isEmpty() ? new Object[0]
            : Arrays.stream(written.split(", ")).map(Integer::valueOf).toArray();
        Class<?>[] types = new Class<?>[numbers.length];
        Arrays.fill(types, int.class);
        return OddUmbrellas.class.getMethod(call, types).invoke(office, numbers);
    }

    /** The number of an answer as it is written: in digits, or as a constant of the class. */
    private static Object numberOf(String written) throws Exception {
        return Character.isLetter(written.charAt(0)) ? OddUmbrellas.class.getField(written).get(null)
            : (Object) Integer.valueOf(written);
    }

    private static Set<String> callsOfTheFace() {
        Set<String> calls = new TreeSet<>();
        for (Method call : OddUmbrellas.class.getDeclaredMethods()) {
            if (Modifier.isPublic(call.getModifiers())) {
                calls.add(call.getName());
            }
        }
        return calls;
    }
}

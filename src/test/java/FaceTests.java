import java.lang.reflect.Constructor;
import java.lang.reflect.Field;
import java.lang.reflect.Method;
import java.lang.reflect.Modifier;
import java.nio.file.Files;
import java.nio.file.Path;
import java.util.Set;
import java.util.TreeSet;
import java.util.regex.Matcher;
import java.util.regex.Pattern;

/** The class's face is the document's and nothing more, and the file keeps to what can be seen of the language's rules. */
public final class FaceTests {
    private static final String[] FACE = {"find 4", "claim 4", "tell 3", "drop 1", "weeks 1", "hand 0", "set 2", "umbrella 2",
        "claimOf 2", "points 2", "having 2", "book 2", "why 2", "ifTold 3", "oddest 0", "ifWeeks 2", "mean 0", "count 1",
        "undo 0", "type 1", "clearText 0", "fault 1", "play 0"};
    private static final String[] CONSTANTS = {"INVALID_ARGUMENT", "NOT_POSSIBLE", "LIMIT_REACHED", "NOT_FOUND"};
    private static final String[] FORBIDDEN = {"->", "::", "\\bfinally\\b", "\\bsynchronized\\b", "\\bassert\\b", "\\bimport\\b",
        "\\bpackage\\b", "static \\{", "Exact\\(", "\\bcatch\\b", "\\bthrow\\b", "\\bMath\\.(?!min\\b|max\\b|abs\\b)", "floatTo",
        "[^\\x00-\\x7f]", "\\bInteger\\b", "\\bArrays\\b", "System\\.(?!arraycopy\\b)", "while \\(true\\)"};

    private static int wrong = 0;

    private static void due(String what, Object got, Object want) {
        if (!got.equals(want)) {
            wrong++;
            System.out.println(what + ": " + got + ", due is " + want);
        }
    }

    public static void main(String[] args) throws Exception {
        members();
        names();
        language(Files.readString(Path.of(args[0])));
        System.out.println(wrong == 0 ? "FaceTests: all is as due" : "FaceTests: " + wrong + " things are not as due");
        if (wrong != 0) {
            System.exit(1);
        }
    }

    private static void members() {
        Class<?> c = OddUmbrellas.class;
        due("class", Modifier.toString(c.getModifiers()), "public final");
        Set<String> face = new TreeSet<>(Set.of(FACE));
        Set<String> got = new TreeSet<>();
        for (Method m : c.getDeclaredMethods()) {
            if (!Modifier.isPrivate(m.getModifiers())) {
                got.add(m.getName() + " " + m.getParameterCount());
                due("modifiers of " + m.getName(), Modifier.toString(m.getModifiers()), "public");
                due("type of " + m.getName(), m.getReturnType(), int.class);
                for (Class<?> p : m.getParameterTypes()) {
                    due("parameter of " + m.getName(), p, int.class);
                }
            }
        }
        due("methods", got, face);
        Set<String> constants = new TreeSet<>();
        for (Field f : c.getDeclaredFields()) {
            if (!Modifier.isPrivate(f.getModifiers())) {
                constants.add(f.getName());
                due("modifiers of " + f.getName(), Modifier.toString(f.getModifiers()), "public static final");
            }
        }
        due("constants", constants, new TreeSet<>(Set.of(CONSTANTS)));
        Constructor<?>[] made = c.getDeclaredConstructors();
        due("constructors", made.length, 1);
        due("its parameters", made[0].getParameterCount(), 0);
        due("its modifiers", Modifier.toString(made[0].getModifiers()), "public");
    }

    /** No private method, and none of a class inside, bears the name of a public one; static fields are final. */
    private static void names() {
        Set<String> face = new TreeSet<>();
        for (String f : FACE) {
            face.add(f.substring(0, f.indexOf(' ')));
        }
        for (Method m : OddUmbrellas.class.getDeclaredMethods()) {
            due(m.getName() + " bears a public name", Modifier.isPrivate(m.getModifiers()) && face.contains(m.getName()), false);
        }
        for (Class<?> c : OddUmbrellas.class.getDeclaredClasses()) {
            due(c + " is private and static", Modifier.toString(c.getModifiers()).startsWith("private static"), true);
            for (Method m : c.getDeclaredMethods()) {
                due(c + "." + m.getName() + " bears a public name", face.contains(m.getName()), false);
                due(c + "." + m.getName() + " has too many parameters", m.getParameterCount() > 7, false);
            }
            for (Field f : c.getDeclaredFields()) {
                due(c + "." + f.getName() + " is static", Modifier.isStatic(f.getModifiers()), false);
            }
        }
        for (Field f : OddUmbrellas.class.getDeclaredFields()) {
            int is = f.getModifiers();
            due(f.getName() + " is static and not final", Modifier.isStatic(is) && !Modifier.isFinal(is), false);
        }
    }

    private static void language(String source) {
        String code = source.replaceAll("(?s)/\\*.*?\\*/", "").replaceAll("//[^\n]*", "");
        for (String bad : FORBIDDEN) {
            Matcher m = Pattern.compile(bad).matcher(code);
            due("the file has " + bad, m.find(), false);
        }
    }
}

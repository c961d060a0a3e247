import java.lang.reflect.Constructor;
import java.lang.reflect.Field;
import java.lang.reflect.Method;
import java.lang.reflect.Modifier;
import java.nio.charset.StandardCharsets;
import java.nio.file.Files;
import java.nio.file.Path;
import java.util.List;
import java.util.Set;
import java.util.TreeSet;
import java.util.regex.Pattern;

/** The face of the class, and the rules of LANGUAGE.md that can be read from its text. */
public final class RulesTest {
    private static final List<String> FACE = List.of("setUp(int)", "set(int,int,int)", "get(int,int)", "adjust(int,int,int)",
        "restart(int)", "speed(int)", "disturb(int,int,int)", "hide(int,int)", "falseMark(int,int,int)", "splice(int,int)",
        "run(int)", "seen(int,int)", "state(int,int)", "errors(int,int,int)", "total(int)", "forecast(int,int,int)",
        "attempt(int,int,int,int)", "bestGain(int,int,int,int,int)", "put(long)", "wipe()", "fault()", "carryOut()",
        "count(int)", "save(int)", "restore(int)");
    private static final List<String> CONSTANTS = List.of("NO_SUCH", "BAD_VALUE", "BAD_TEXT", "TOO_MANY", "NOT_POSSIBLE", "NONE",
        "SHIFT", "DISTANCE", "SENSOR", "WINDOW", "MISSES", "GAIN", "SUM_GAIN", "BAND", "STEP", "LEARN", "READY", "PUSH");
    private static final String[] NOT_ALLOWED = {"import", "package", "throw", "throws", "try", "catch", "finally", "synchronized",
        "assert", "instanceof", "->", "::", "Object", "System\\.(?!arraycopy)", "Math\\.(?!abs|max|min)", "while \\(true", "for \\(;;"};

    public static void main(String[] args) throws Exception {
        face();
        for (Class<?> inside : PrintRegister.class.getDeclaredClasses()) inside(inside);
        Check.dueTrue("at most twelve classes", PrintRegister.class.getDeclaredClasses().length <= 11);
        text(Files.readAllLines(Path.of("src/main/java/PrintRegister.java"), StandardCharsets.US_ASCII));
        Check.end("RulesTest");
    }

    private static void face() {
        Check.due("modifiers", PrintRegister.class.getModifiers(), Modifier.PUBLIC | Modifier.FINAL);
        Set<String> methods = new TreeSet<>();
        for (Method m : PrintRegister.class.getDeclaredMethods()) {
            if (Modifier.isPrivate(m.getModifiers())) continue;
            StringBuilder signature = new StringBuilder();
            for (Class<?> type : m.getParameterTypes()) signature.append(signature.length() > 0 ? "," : "").append(type);
            methods.add(m.getName() + "(" + signature + ")");
            Check.due(m.getName() + " modifiers", m.getModifiers(), Modifier.PUBLIC);
            Check.dueTrue(m.getName() + " answers an int", m.getReturnType() == int.class);
        }
        Check.dueTrue("methods of the face: " + methods, methods.equals(new TreeSet<>(FACE)));
        Set<String> constants = new TreeSet<>();
        for (Field f : PrintRegister.class.getDeclaredFields()) {
            if (Modifier.isPrivate(f.getModifiers())) continue;
            constants.add(f.getName());
            Check.due(f.getName() + " modifiers", f.getModifiers(), Modifier.PUBLIC | Modifier.STATIC | Modifier.FINAL);
            Check.dueTrue(f.getName() + " is an int", f.getType() == int.class);
        }
        Check.dueTrue("constants of the face: " + constants, constants.equals(new TreeSet<>(CONSTANTS)));
        Constructor<?>[] constructors = PrintRegister.class.getDeclaredConstructors();
        Check.due("constructors", constructors.length, 1);
        Check.due("of no arguments", constructors[0].getParameterCount(), 0);
        members(PrintRegister.class);
    }

    private static void inside(Class<?> inside) {
        String name = inside.getSimpleName();
        Check.dueTrue(name + " is static", Modifier.isStatic(inside.getModifiers()));
        Check.dueTrue(name + " is private", Modifier.isPrivate(inside.getModifiers()));
        Check.due(name + " has no classes inside", inside.getDeclaredClasses().length, 0);
        Set<String> ofFace = new TreeSet<>();
        for (String signature : FACE) ofFace.add(signature.substring(0, signature.indexOf('(')));
        for (Method m : inside.getDeclaredMethods()) {
            Check.dueTrue(name + "." + m.getName() + " has a name of its own", !ofFace.contains(m.getName()));
        }
        members(inside);
    }

    private static void members(Class<?> type) {
        int fields = 0;
        for (Field f : type.getDeclaredFields()) {
            if (Modifier.isStatic(f.getModifiers())) {
                Check.dueTrue(f.getName() + " is final", Modifier.isFinal(f.getModifiers()));
            } else {
                fields++;
            }
        }
        Check.dueTrue(type.getSimpleName() + " has at most 20 fields", fields <= 20);
        Set<String> names = new TreeSet<>();
        for (Method m : type.getDeclaredMethods()) {
            Check.dueTrue(m.getName() + " is not overloaded", names.add(m.getName()));
            Check.dueTrue(m.getName() + " has at most seven parameters", m.getParameterCount() <= 7);
        }
    }

    private static void text(List<String> lines) {
        int blockStart = 0;
        for (int i = 0; i < lines.size(); i++) {
            String line = lines.get(i).replaceAll("//.*|/\\*\\*.*\\*/", "");
            for (String word : NOT_ALLOWED) {
                String pattern = Character.isLetter(word.charAt(0)) ? "\\b" + word + (word.endsWith(")") ? "" : "\\b") : word;
                Check.dueTrue("line " + (i + 1) + " without " + word, !Pattern.compile(pattern).matcher(line).find());
            }
            boolean isMade = line.matches("\\s+(private final \\w+(\\[])? )?\\w+(\\[u])? = new \\w+.*;|.*units\\[u] = new Unit\\(\\);");
            Check.dueTrue("line " + (i + 1) + " makes objects in constructors alone", isMade || !line.contains("new "));
            if (line.matches(" {4,8}\\S.*\\) \\{")) blockStart = i;
            if (line.matches(" {4,8}}")) Check.dueTrue("a method that ends at line " + (i + 1) + " is short", i - blockStart <= 60);
        }
    }
}

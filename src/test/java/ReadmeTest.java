import java.io.IOException;
import java.lang.reflect.InvocationTargetException;
import java.lang.reflect.Method;
import java.lang.reflect.Modifier;
import java.nio.file.Files;
import java.nio.file.Path;
import java.util.List;
import java.util.Set;
import java.util.TreeSet;
import java.util.regex.Matcher;
import java.util.regex.Pattern;

/**
 * The calls that README.md shows answer what it says. Behind each call that answers, the comment begins with the
 * answer; behind one that throws, with "throws" and the exception's name.
 */
public final class ReadmeTest {
    private static final Pattern CALL = Pattern.compile("unit\\.(\\w+)\\((.*?)\\);\\s*(?:// (.*))?");
    private static final Pattern THROWS = Pattern.compile("throws (\\w+).*");
    private static final Check CHECK = new Check();

    public static void main(String[] args) throws IOException, IllegalAccessException {
        ResidueUnit unit = new ResidueUnit();
        Set<String> shown = new TreeSet<>();
        for (String line : exampleLines(Files.readAllLines(Path.of("README.md")))) {
            Matcher call = CALL.matcher(line);
            CHECK.due(line + " is a call", call.matches(), true);
            if (call.matches()) {
                shown.add(call.group(1));
                callDue(line, unit, call);
            }
        }
        CHECK.due("calls that are shown", shown, face());
        CHECK.finish();
    }

    /** The lines of the Java block behind the one that makes the object. */
    private static List<String> exampleLines(List<String> readme) {
        int begin = readme.indexOf("ResidueUnit unit = new ResidueUnit();") + 1;
        List<String> rest = readme.subList(begin, readme.size());
        return rest.subList(0, rest.indexOf("```")).stream().filter(line -> !line.isBlank()).toList();
    }

    private static Set<String> face() {
        Set<String> names = new TreeSet<>();
        for (Method method : ResidueUnit.class.getDeclaredMethods()) {
            if (Modifier.isPublic(method.getModifiers())) {
                names.add(method.getName());
            }
        }
        return names;
    }

    private static void callDue(String line, ResidueUnit unit, Matcher call) throws IllegalAccessException {
        Method method = methodNamed(call.group(1));
        String comment = call.group(3) == null ? "" : call.group(3);
        Matcher refusal = THROWS.matcher(comment);
        String thrown = "nothing";
        Object answer = null;
        try {
            answer = method.invoke(unit, arguments(method, call.group(2)));
        } catch (InvocationTargetException e) {
            thrown = e.getCause().getClass().getSimpleName();
        }
        CHECK.due(line + " throws", thrown, refusal.matches() ? refusal.group(1) : "nothing");
        if (answer != null) {
            CHECK.due(line, answer.toString(), comment.split("[ ,:]")[0]);
        }
    }

    private static Method methodNamed(String name) {
        for (Method method : ResidueUnit.class.getMethods()) {
            if (method.getName().equals(name)) {
                return method;
            }
        }
        throw new IllegalArgumentException("README.md shows " + name + ", which the class has not");
    }

    private static Object[] arguments(Method method, String written) {
        String[] texts = written.isEmpty() ? new String[0] : written.split(", ");
        Object[] values = new Object[texts.length];
        for (int i = 0; i < texts.length; i++) {
            values[i] = argument(method.getParameterTypes()[i], texts[i]);
        }
        return values;
    }

    private static Object argument(Class<?> type, String text) {
        if (type == boolean.class) {
            return Boolean.valueOf(text);
        }
        return type == long.class ? (Object) Long.valueOf(text) : (Object) Integer.valueOf(text);
    }
}

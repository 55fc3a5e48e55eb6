import java.io.IOException;
import java.lang.reflect.Method;
import java.nio.file.Files;
import java.nio.file.Path;
import java.util.Set;
import java.util.TreeSet;
import java.util.regex.Matcher;
import java.util.regex.Pattern;

/** README.md shows each call of the face, and each answers what the comment beside it says. */
public final class ReadmeTest extends Checks {
    private static final Pattern CALL =
            Pattern.compile("placer\\.(\\w+)\\((.*?)\\);\\s+// (-?\\w+).*");

    public static void main(String[] args) throws IOException, ReflectiveOperationException {
        sentence("README.md");
        String readme = Files.readString(Path.of(args.length > 0 ? args[0] : "README.md"));
        LogPlacer placer = new LogPlacer();
        Set<String> shown = new TreeSet<>();
        for (String row : readme.split("\\R")) {
            Matcher call = CALL.matcher(row);
            boolean isCall = call.matches();
            due(row + " is a call with its answer", isCall, row.startsWith("placer."));
            if (isCall) {
                shown.add(call.group(1));
                due(row, answer(placer, call.group(1), call.group(2)), call.group(3));
            }
        }
        due("calls that are shown", shown.toString(), namesOfTheFace().toString());
        finish("ReadmeTest");
    }

    private static Set<String> namesOfTheFace() {
        Set<String> names = new TreeSet<>();
        for (Method method : LogPlacer.class.getMethods()) {
            if (method.getDeclaringClass() == LogPlacer.class) {
                names.add(method.getName());
            }
        }
        return names;
    }

    private static String answer(LogPlacer placer, String name, String told)
            throws ReflectiveOperationException {
        String[] texts = told.isEmpty() ? new String[0] : told.split(", ");
        Class<?>[] types = new Class<?>[texts.length];
        Object[] values = new Object[texts.length];
        for (int k = 0; k < texts.length; k++) {
            boolean isTruth = texts[k].equals("true") || texts[k].equals("false");
            types[k] = isTruth ? boolean.class : int.class;
            values[k] = isTruth ? (Object) Boolean.valueOf(texts[k]) : Integer.decode(texts[k]);
        }
        return String.valueOf(LogPlacer.class.getMethod(name, types).invoke(placer, values));
    }
}

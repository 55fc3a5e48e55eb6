import java.io.IOException;
import java.lang.reflect.Constructor;
import java.lang.reflect.Field;
import java.lang.reflect.Method;
import java.lang.reflect.Modifier;
import java.nio.file.Files;
import java.nio.file.Path;
import java.util.Set;
import java.util.TreeSet;
import java.util.regex.Matcher;
import java.util.regex.Pattern;

/** The public face is the document's and no more, and the source keeps to rules that can be seen in it. */
public final class FaceTest {
    private static final String[] FACE = {
        "boolean flow(int)", "int step(int,int,int)", "boolean counted(int,int)", "boolean line(int,boolean)",
        "boolean fault(int,boolean)", "int ways()", "int way(int,int)", "int log(int,int)", "int heaps()",
        "int heap(int)", "int apart(int)", "int cheapest(int,boolean)", "long price(int)", "int useless(int)",
        "int why(int,int)", "int feed(int,int,int,int,int)", "int read(int,boolean)", "int allowed(int)",
        "int found(int)", "int look(int,int)", "long count(int)"
    };
    /** What the rules list of the library that needs an import. */
    private static final Set<String> LISTED =
            Set.of("java.util.Arrays", "java.util.ArrayList", "java.util.List", "java.util.Iterator");
    private static int wrong = 0;

    public static void main(String[] args) throws IOException {
        membersAreTheFace();
        sourceKeepsTheRules(Files.readString(Path.of(args.length > 0 ? args[0] : "src/main/java/LogPlacer.java")));
        System.out.println(wrong == 0 ? "FaceTest: all as due" : "FaceTest: " + wrong + " wrong");
        if (wrong != 0) {
            System.exit(1);
        }
    }

    private static void due(String what, boolean holds) {
        if (!holds) {
            wrong++;
            System.out.println("face: " + what);
        }
    }

    private static void membersAreTheFace() {
        Set<String> names = new TreeSet<>();
        Set<String> shown = new TreeSet<>();
        for (Method m : LogPlacer.class.getDeclaredMethods()) {
            if (Modifier.isPublic(m.getModifiers())) {
                shown.add(shape(m));
                names.add(m.getName());
            }
        }
        due("methods are " + shown, shown.equals(new TreeSet<>(Set.of(FACE))));
        for (Method m : LogPlacer.class.getDeclaredMethods()) {
            boolean hidden = Modifier.isPrivate(m.getModifiers());
            due(m + " is seen", hidden || Modifier.isPublic(m.getModifiers()) || m.isSynthetic());
            due(m + " bears a public name", !hidden || !names.contains(m.getName()));
        }
        for (Field f : LogPlacer.class.getDeclaredFields()) {
            due(f + " is seen", Modifier.isPrivate(f.getModifiers()) || f.getName().equals("NONE"));
            due(f + " is static and not final",
                    !Modifier.isStatic(f.getModifiers()) || Modifier.isFinal(f.getModifiers()));
        }
        Constructor<?>[] made = LogPlacer.class.getDeclaredConstructors();
        due("one constructor", made.length == 1 && Modifier.isPublic(made[0].getModifiers()));
        due("final", Modifier.isFinal(LogPlacer.class.getModifiers()));
        for (Class<?> inside : LogPlacer.class.getDeclaredClasses()) {
            due(inside + " is not static", Modifier.isStatic(inside.getModifiers()));
            due(inside + " has too many fields", inside.getDeclaredFields().length <= 24);
            parametersAreFew(inside);
        }
        parametersAreFew(LogPlacer.class);
        due("too many classes", LogPlacer.class.getDeclaredClasses().length <= 12);
    }

    private static void parametersAreFew(Class<?> of) {
        for (Method m : of.getDeclaredMethods()) {
            due(m + " has too many parameters", m.getParameterCount() <= 7);
        }
    }

    private static String shape(Method m) {
        StringBuilder text = new StringBuilder(m.getReturnType() + " " + m.getName() + "(");
        for (Class<?> type : m.getParameterTypes()) {
            text.append(text.charAt(text.length() - 1) == '(' ? "" : ",").append(type);
        }
        return text.append(")").toString();
    }

    private static void sourceKeepsTheRules(String source) {
        String code = source.replaceAll("(?s)/\\*.*?\\*/", "").replaceAll("//[^\n]*", "")
                .replaceAll("\\b(case [^;{}]*?|default\\s*)->", "");
        Matcher barred = Pattern.compile("\\b(throw|throws|try|catch|synchronized|assert|package)\\b|->|::")
                .matcher(code);
        while (barred.find()) {
            due("the source has " + barred.group(), false);
        }
        Matcher imports = Pattern.compile("import ([^;]*);").matcher(code);
        while (imports.find()) {
            due("the source imports " + imports.group(1), LISTED.contains(imports.group(1)));
        }
        due("characters beyond 255", source.chars().allMatch(c -> c < 256));
    }
}

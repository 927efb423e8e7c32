import java.io.IOException;
import java.lang.reflect.InvocationTargetException;
import java.lang.reflect.Method;
import java.lang.reflect.Modifier;
import java.nio.file.Files;
import java.nio.file.Path;
import java.util.List;
import java.util.regex.Matcher;
import java.util.regex.Pattern;

/** README.md, read from the directory above src: its example answers as it says, and it tells of each call. */
public final class ReadmeTest {
    private static final Path README = Path.of("README.md");
    /** A call of the example, and what stands behind it up to a colon or the end. */
    private static final Pattern EXAMPLE = Pattern.compile("smith\\.(\\w+)\\((.*)\\);\\s+// ([^:]+)(:.*)?");
    private static final Pattern EXCEPTION = Pattern.compile("`(\\w+Exception)`");

    private static final Due DUE = new Due();

    public static void main(String[] args) throws IOException, ReflectiveOperationException {
        List<String> lines = Files.readAllLines(README);
        examples(lines);
        calls(lines);
        DUE.end("ReadmeTest");
    }

    private static void examples(List<String> lines) throws ReflectiveOperationException {
        Aclsmith smith = new Aclsmith();
        int seen = 0;
        for (String line : lines) {
            Matcher call = EXAMPLE.matcher(line);
            if (call.matches()) {
                DUE.is(line, answer(smith, call.group(1), call.group(2)), call.group(3));
                seen++;
            }
        }
        DUE.is("lines of the example seen", seen > 15, true);
    }

    private static String answer(Aclsmith smith, String name, String parameters)
            throws IllegalAccessException, InvocationTargetException {
        for (Method method : Aclsmith.class.getDeclaredMethods()) {
            if (method.getName().equals(name)) {
                return String.valueOf(method.invoke(smith, values(parameters)));
            }
        }
        return "nothing, as there is no such call";
    }

    private static Object[] values(String parameters) {
        String[] words = parameters.isEmpty() ? new String[0] : parameters.split(", ");
        Object[] values = new Object[words.length];
        for (int i = 0; i < words.length; i++) {
            boolean number = Character.isDigit(words[i].charAt(0));
            values[i] = number ? (Object) Integer.valueOf(words[i]) : (Object) Boolean.valueOf(words[i]);
        }
        return values;
    }

    private static void calls(List<String> lines) {
        DUE.is("README.md tells of the constructor", item(lines, "- `Aclsmith()`").isEmpty(), false);
        for (Method method : Aclsmith.class.getDeclaredMethods()) {
            if (Modifier.isPublic(method.getModifiers())) {
                String begin = "- `" + method.getReturnType().getSimpleName() + " " + method.getName() + "(";
                String item = item(lines, begin);
                DUE.is("README.md tells of " + method.getName(), item.isEmpty(), false);
                DUE.is("README.md, types of " + method.getName(), told(item), types(method.getParameterTypes()));
                DUE.is("README.md, exceptions of " + method.getName(), exceptions(item),
                        types(method.getExceptionTypes()));
                DUE.is("README.md, the answer of " + method.getName(), item.toLowerCase().contains("answers "), true);
            }
        }
    }

    /** The item of a list that begins so, its lines joined; empty if there is none. */
    private static String item(List<String> lines, String begin) {
        StringBuilder words = new StringBuilder();
        for (String line : lines) {
            boolean within = words.length() > 0 && line.startsWith("  ");
            if (line.startsWith(begin) || within) {
                words.append(line).append(' ');
            } else if (words.length() > 0) {
                return words.toString();
            }
        }
        return words.toString();
    }

    /** The types of the parameters that an item names, each with a blank behind it. */
    private static String told(String item) {
        int from = item.indexOf('(') + 1;
        int to = item.indexOf(')', from);
        StringBuilder words = new StringBuilder();
        if (to > from) {
            for (String parameter : item.substring(from, to).split(", ")) {
                words.append(parameter.split(" ")[0]).append(' ');
            }
        }
        return words.toString();
    }

    private static String types(Class<?>[] classes) {
        StringBuilder words = new StringBuilder();
        for (Class<?> one : classes) {
            words.append(one.getSimpleName()).append(' ');
        }
        return words.toString();
    }

    private static String exceptions(String item) {
        StringBuilder words = new StringBuilder();
        Matcher name = EXCEPTION.matcher(item);
        while (name.find()) {
            words.append(name.group(1)).append(' ');
        }
        return words.toString();
    }
}

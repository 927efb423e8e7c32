import java.io.IOException;
import java.lang.reflect.Constructor;
import java.lang.reflect.Field;
import java.lang.reflect.Method;
import java.lang.reflect.Modifier;
import java.nio.file.Files;
import java.nio.file.Path;
import java.util.Arrays;
import java.util.HashSet;
import java.util.Set;
import java.util.TreeSet;

/** The class shows the public face of the document under its headings, and nothing else. */
public final class FaceTest {
    private static final Path SOURCE = Path.of("src/main/java/Aclsmith.java");
    private static final String HEADING = "// ---- ";
    /** Terms: "Ahead of the calls .. the interface says: ..", for each of the five headings. */
    private static final String HEADED =
        "rules. add remove move rules sources destinations protocols permits "
        + "packets. judge decider hits misses averageLooks "
        + "shadows. decides overlap isShadowed shadowedBy isRedundant permitted "
        + "shorter lists. canMerge shorten sortByHits "
        + "ternary entries. entries entryValue entryMask allEntries ";
    private static final String[] FACE = {
        "int add(int,int,int,int,int,boolean) throws IllegalArgumentException,IllegalStateException",
        "int remove(int) throws IndexOutOfBoundsException",
        "int move(int,int) throws IndexOutOfBoundsException",
        "int rules()",
        "int sources(int) throws IndexOutOfBoundsException",
        "int destinations(int) throws IndexOutOfBoundsException",
        "int protocols(int) throws IndexOutOfBoundsException",
        "boolean permits(int) throws IndexOutOfBoundsException",
        "boolean judge(int,int,int) throws IllegalArgumentException",
        "int decider(int,int,int) throws IllegalArgumentException,NoSuchElementException",
        "int hits(int) throws IndexOutOfBoundsException",
        "int misses()",
        "float averageLooks()",
        "int decides(int) throws IndexOutOfBoundsException",
        "int overlap(int,int) throws IndexOutOfBoundsException",
        "boolean isShadowed(int) throws IndexOutOfBoundsException",
        "int shadowedBy(int) throws IndexOutOfBoundsException,NoSuchElementException",
        "boolean isRedundant(int) throws IndexOutOfBoundsException",
        "int permitted()",
        "boolean canMerge(int) throws IndexOutOfBoundsException",
        "int shorten()",
        "int sortByHits()",
        "int entries(int) throws IndexOutOfBoundsException",
        "int entryValue(int,int) throws IndexOutOfBoundsException",
        "int entryMask(int,int) throws IndexOutOfBoundsException",
        "int allEntries()",
    };

    public static void main(String[] args) throws IOException {
        Due due = new Due();
        int modifiers = Aclsmith.class.getModifiers();
        due.is("public final class", Modifier.isPublic(modifiers) && Modifier.isFinal(modifiers), true);
        due.is("constructors", constructors(), "public Aclsmith()");
        due.is("methods", shownMethods().toString(), new TreeSet<String>(Arrays.asList(FACE)).toString());
        due.is("headings and the calls behind them", headed(), HEADED);
        due.is("private methods with a public name", namesTwice().toString(), "[]");
        for (Field field : Aclsmith.class.getDeclaredFields()) {
            due.is("private field " + field.getName(), Modifier.isPrivate(field.getModifiers()), true);
        }
        for (Class<?> inside : Aclsmith.class.getDeclaredClasses()) {
            due.is("public or protected class " + inside.getName(),
                    (inside.getModifiers() & (Modifier.PUBLIC | Modifier.PROTECTED)) != 0, false);
        }
        due.end("FaceTest");
    }

    /** The headings of the source and the public methods behind each, up to the last public one. */
    private static String headed() throws IOException {
        StringBuilder words = new StringBuilder();
        String heading = "";
        for (String line : Files.readAllLines(SOURCE)) {
            String code = line.trim();
            int bracket = code.indexOf('(');
            if (code.startsWith(HEADING)) {
                heading = code.substring(HEADING.length()) + " ";
            } else if (code.startsWith("public ") && bracket > 0 && !code.startsWith("public Aclsmith(")) {
                words.append(heading).append(code.substring(code.lastIndexOf(' ', bracket) + 1, bracket)).append(' ');
                heading = "";
            }
        }
        return words.toString();
    }

    private static String constructors() {
        StringBuilder all = new StringBuilder();
        for (Constructor<?> one : Aclsmith.class.getDeclaredConstructors()) {
            all.append(one.toString());
        }
        return all.toString();
    }

    private static Set<String> shownMethods() {
        Set<String> shown = new TreeSet<String>();
        for (Method method : Aclsmith.class.getDeclaredMethods()) {
            if (!Modifier.isPrivate(method.getModifiers()) && !method.isSynthetic()) {
                String words = Modifier.isPublic(method.getModifiers()) ? "" : "not public: ";
                words += Modifier.isStatic(method.getModifiers()) ? "static " : "";
                shown.add(words + describe(method));
            }
        }
        return shown;
    }

    private static String describe(Method method) {
        String words = method.getReturnType().getSimpleName() + " " + method.getName()
                + "(" + simpleNames(method.getParameterTypes()) + ")";
        Class<?>[] thrown = method.getExceptionTypes();
        return thrown.length == 0 ? words : words + " throws " + simpleNames(thrown);
    }

    private static String simpleNames(Class<?>[] classes) {
        StringBuilder names = new StringBuilder();
        for (Class<?> one : classes) {
            names.append(names.length() == 0 ? "" : ",").append(one.getSimpleName());
        }
        return names.toString();
    }

    private static Set<String> namesTwice() {
        Set<String> publicNames = new HashSet<String>();
        Set<String> twice = new TreeSet<String>();
        for (Method method : Aclsmith.class.getDeclaredMethods()) {
            if (Modifier.isPublic(method.getModifiers())) {
                publicNames.add(method.getName());
            }
        }
        for (Method method : Aclsmith.class.getDeclaredMethods()) {
            if (!Modifier.isPublic(method.getModifiers()) && publicNames.contains(method.getName())) {
                twice.add(method.getName());
            }
        }
        return twice;
    }
}

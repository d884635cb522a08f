import java.io.IOException;
import java.lang.reflect.Constructor;
import java.lang.reflect.Field;
import java.lang.reflect.Method;
import java.lang.reflect.Modifier;
import java.nio.file.Files;
import java.nio.file.Path;
import java.util.ArrayList;
import java.util.Arrays;
import java.util.HashSet;
import java.util.List;
import java.util.Set;
import java.util.TreeSet;
import java.util.regex.Matcher;
import java.util.regex.Pattern;

/** What can be seen of LANGUAGE.md's rules, and the document's face, from the source and the class. */
public final class LanguageTest {
    private static final List<String> wrong = new ArrayList<>();

    public static void main(String[] args) throws IOException {
        face();
        nested();
        source(Files.readString(Path.of("src/main/java/RerootStore.java")));
        wrong.forEach(System.out::println);
        System.out.println("LanguageTest: " + wrong.size() + " breaches");
        if (!wrong.isEmpty()) {
            System.exit(1);
        }
    }

    private static void check(boolean holds, String breach) {
        if (!holds) {
            wrong.add(breach);
        }
    }

    /** The document's own list of the face, read from it, against what the class shows. */
    private static void face() throws IOException {
        String doc = Files.readString(Path.of("../shared/DOC.md"));
        String list = doc.substring(doc.indexOf("```java"), doc.indexOf("## Terms"));
        Set<String> due = new TreeSet<>();
        Matcher m = Pattern.compile("public (int|long) (\\w+)\\(([^)]*)\\);").matcher(list);
        while (m.find()) {
            due.add(m.group(1) + " " + m.group(2) + "(" + m.group(3).replaceAll("(int|long) \\w+", "$1") + ")");
        }
        Set<String> shown = new TreeSet<>();
        for (Method method : RerootStore.class.getDeclaredMethods()) {
            if (!Modifier.isPrivate(method.getModifiers())) {
                check(Modifier.isPublic(method.getModifiers()) && !Modifier.isStatic(method.getModifiers()), "not of the face: " + method);
                String types = String.join(", ", Arrays.stream(method.getParameterTypes()).map(Class::getName).toList());
                shown.add(method.getReturnType() + " " + method.getName() + "(" + types + ")");
            }
        }
        check(due.size() > 50 && due.equals(shown), "the face is " + shown + ", due is " + due);
        for (Field field : RerootStore.class.getDeclaredFields()) {
            check(Modifier.isPrivate(field.getModifiers()) || field.getName().equals("NONE"), "a field is not private: " + field);
        }
        Constructor<?>[] constructors = RerootStore.class.getDeclaredConstructors();
        check(constructors.length == 1 && Modifier.isPublic(constructors[0].getModifiers()) && constructors[0].getParameterCount() == 0, "the constructor");
        check(Modifier.isFinal(RerootStore.class.getModifiers()) && Modifier.isPublic(RerootStore.class.getModifiers()), "the class is public and final");
    }

    private static void nested() {
        List<Class<?>> classes = new ArrayList<>(List.of(RerootStore.class.getDeclaredClasses()));
        check(classes.size() < 12, "classes: " + classes.size());
        Set<String> names = new HashSet<>();
        for (Method method : RerootStore.class.getMethods()) {
            if (method.getDeclaringClass() == RerootStore.class) {
                names.add(method.getName());
            }
        }
        for (Class<?> c : classes) {
            check(Modifier.isStatic(c.getModifiers()) && !Modifier.isPublic(c.getModifiers()), "not static or too open: " + c);
            for (Method method : c.getDeclaredMethods()) {
                check(!names.contains(method.getName()), "bears a public one's name: " + method);
            }
        }
        classes.add(RerootStore.class);
        for (Class<?> c : classes) {
            long fields = Arrays.stream(c.getDeclaredFields()).filter(f -> !Modifier.isStatic(f.getModifiers())).count();
            check(fields <= 20, "fields of " + c + ": " + fields);
            for (Field field : c.getDeclaredFields()) {
                boolean isStatic = Modifier.isStatic(field.getModifiers());
                check(!isStatic || Modifier.isFinal(field.getModifiers()) && field.getType() == int.class, "static state: " + field);
            }
            for (Method method : c.getDeclaredMethods()) {
                check(!Modifier.isPrivate(method.getModifiers()) || !names.contains(method.getName()), "bears a public one's name: " + method);
            }
        }
    }

    private static void source(String text) {
        String code = text.replaceAll("(?s)/\\*.*?\\*/", "").replaceAll("//[^\n]*", "").replaceAll("\"[^\"]*\"", "\"\"");
        for (String word : new String[] {"throw", "throws", "try", "catch", "finally", "synchronized", "assert", "import", "package", "native", "instanceof", "equals", "hashCode", "toString", "Thread", "Random", "double", "float"}) {
            check(!Pattern.compile("\\b" + word + "\\b").matcher(code).find(), "a word that is ruled out or not needed: " + word);
        }
        for (String sign : new String[] {"->", "::", "Exact", "@", "static {", "\"\" +", "+ \"\""}) {
            check(!code.contains(sign), "a sign that is ruled out: " + sign);
        }
        // No library but Math, Integer and System.arraycopy is needed.
        Matcher calls = Pattern.compile("\\b([A-Z][A-Za-z]+)\\.(\\w+)\\(").matcher(code);
        Set<String> known = Set.of("Math.max", "Math.min", "Integer.bitCount", "Integer.numberOfTrailingZeros", "System.arraycopy", "Shelf.numberIn", "Shelf.withNumber");
        while (calls.find()) {
            check(known.contains(calls.group(1) + "." + calls.group(2)), "a call outside: " + calls.group());
        }
    }
}

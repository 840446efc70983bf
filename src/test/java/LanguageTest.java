import java.io.IOException;
import java.lang.reflect.Constructor;
import java.lang.reflect.Executable;
import java.lang.reflect.Field;
import java.lang.reflect.Method;
import java.lang.reflect.Modifier;
import java.nio.file.Files;
import java.nio.file.Path;
import java.util.ArrayList;
import java.util.List;

/** Those rules of LANGUAGE.md that can be read off the program's text and classes; run from the project's root. */
public final class LanguageTest {
    private static final Path PROGRAM = Path.of("src/main/java/GlassHall.java");
    private static final int MOST_CLASSES = 12;
    private static final int MOST_FIELDS = 20;
    private static final int MOST_PARAMETERS = 7;
    private static final int MOST_LINES = 60;

    /** What the program has no need of, and what rules 2, 4, 6 and 13 leave out. */
    private static final String[] LEFT_OUT = {
        "->", "::", "try {", "catch", "finally", "synchronized", "assert ", "instanceof", "static {", "Exact(",
        "System.", "Thread", "Random", "java.io", "java.nio", "java.time", "getMessage", "hashCode", "toString",
        "double", "float", "while (true)", "for (;;)",
    };

    public static void main(String[] args) throws IOException {
        List<String> lines = Files.readAllLines(PROGRAM);
        importsAreThoseOfTheExceptions(lines);
        leftOutIsLeftOut(lines);
        methodsAreShort(lines);
        List<Class<?>> classes = new ArrayList<>(List.of(GlassHall.class.getDeclaredClasses()));
        classes.add(GlassHall.class);
        atMost("classes", classes.size(), MOST_CLASSES);
        classes.forEach(LanguageTest::holdClass);
        Check.end();
    }

    private static void importsAreThoseOfTheExceptions(List<String> lines) {
        for (String line : lines) {
            boolean outside = line.startsWith("package") || line.startsWith("import");
            if (outside && !line.equals("import java.util.NoSuchElementException;")) {
                Check.tell("not in the program: " + line);
            }
        }
    }

    private static void leftOutIsLeftOut(List<String> lines) {
        for (String line : lines) {
            for (String word : LEFT_OUT) {
                if (line.contains(word)) {
                    Check.tell(word + " is left out of the language: " + line);
                }
            }
            boolean raises = line.contains("throw new");
            if (raises && !line.matches(" +throw new (NoSuchElement|IllegalState|IllegalArgument|IndexOutOfBounds)"
                    + "Exception\\(\\);")) {
                Check.tell("no such throw in the document: " + line);
            }
        }
    }

    /** The brace that ends a method, or a block, stands under its first line. */
    private static void methodsAreShort(List<String> lines) {
        int[] begin = new int[9];
        for (int i = 0; i < lines.size(); i++) {
            String line = lines.get(i);
            int indent = line.length() - line.stripLeading().length();
            if (line.isBlank() || indent > 8) {
                continue;
            }
            if (!line.strip().equals("}")) {
                begin[indent] = i;
            } else if (!lines.get(begin[indent]).contains("class ")) {
                atMost("lines up to line " + (i + 1), i - begin[indent] + 1, MOST_LINES);
            }
        }
    }

    private static void holdClass(Class<?> one) {
        int fields = 0;
        for (Field field : one.getDeclaredFields()) {
            if (!Modifier.isStatic(field.getModifiers())) {
                fields++;
            } else if (!Modifier.isFinal(field.getModifiers())) {
                Check.tell("a static field that is not final: " + field);
            }
        }
        atMost("fields of " + one, fields, MOST_FIELDS);
        for (Constructor<?> made : one.getDeclaredConstructors()) {
            holdParameters(made);
        }
        for (Method method : one.getDeclaredMethods()) {
            holdParameters(method);
        }
    }

    private static void holdParameters(Executable called) {
        atMost("parameters of " + called, called.getParameterCount(), MOST_PARAMETERS);
    }

    private static void atMost(String what, int count, int most) {
        if (count > most) {
            Check.tell(count + " " + what + ", at most " + most);
        }
    }
}

import java.io.IOException;
import java.lang.reflect.InvocationTargetException;
import java.lang.reflect.Method;
import java.lang.reflect.Modifier;
import java.nio.file.Files;
import java.nio.file.Path;
import java.util.regex.Matcher;
import java.util.regex.Pattern;

/** The calls that README.md shows answer as it says there, and it names every call of the class. */
public final class ReadmeTest {
    private static final Pattern CALL = Pattern.compile("foam\\.(\\w+)\\(([^)]*)\\); +// (throws \\w+|true|-?\\d+)(:.*)?");
    private static int wrong = 0;
    private static int shown = 0;

    public static void main(String[] args) throws IOException, IllegalAccessException {
        String page = Files.readString(Path.of("README.md"));
        FoamCells foam = null;
        for (String line : javaOf(page).split("\n")) {
            if (line.startsWith("FoamCells foam = new FoamCells();")) {
                foam = new FoamCells();
            } else {
                call(foam, line);
            }
        }
        see(shown > 0, "README.md shows no call");
        for (Method m : FoamCells.class.getDeclaredMethods()) {
            if (Modifier.isPublic(m.getModifiers())) {
                see(page.contains("`" + m.getName() + "()`"), "README.md doesn't say what " + m.getName() + "() is for");
            }
        }
        System.out.println(shown + " calls of README.md, " + (wrong == 0 ? "all as due" : wrong + " things not as due"));
        if (wrong != 0) {
            System.exit(1);
        }
    }

    private static String javaOf(String page) {
        Matcher m = Pattern.compile("(?s)```java\n(.*?)\n```").matcher(page);
        boolean found = m.find();
        see(found, "README.md has no Java in it");
        return found ? m.group(1) : "";
    }

    private static void call(FoamCells foam, String line) throws IllegalAccessException {
        Matcher m = CALL.matcher(line);
        if (foam == null || !m.matches()) {
            see(false, "README.md has a line that is no call with its answer: " + line);
            return;
        }
        shown++;
        String got = answer(foam, m.group(1), m.group(2));
        see(got.equals(m.group(3)), line + " answered " + got);
    }

    private static String answer(FoamCells foam, String name, String numbers) throws IllegalAccessException {
        String[] parts = numbers.isEmpty() ? new String[0] : numbers.split(", ");
        Class<?>[] kinds = new Class<?>[parts.length];
        Object[] row = new Object[parts.length];
        for (int k = 0; k < parts.length; k++) {
            kinds[k] = int.class;
            row[k] = Integer.valueOf(parts[k]);
        }
        try {
            return String.valueOf(FoamCells.class.getMethod(name, kinds).invoke(foam, row));
        } catch (InvocationTargetException e) {
            return "throws " + e.getCause().getClass().getSimpleName();
        } catch (NoSuchMethodException e) {
            return "that there is no such call";
        }
    }

    private static void see(boolean good, String what) {
        if (!good) {
            wrong++;
            System.out.println(what);
        }
    }
}

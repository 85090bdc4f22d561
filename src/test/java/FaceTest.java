import java.io.IOException;
import java.lang.reflect.Constructor;
import java.lang.reflect.Field;
import java.lang.reflect.Method;
import java.lang.reflect.Modifier;
import java.nio.file.Files;
import java.nio.file.Path;
import java.util.Arrays;
import java.util.Set;
import java.util.TreeSet;
import java.util.regex.Matcher;
import java.util.regex.Pattern;

/** The public face of the document, and those rules of LANGUAGE.md that can be seen from outside. */
public final class FaceTest {
    private static final String FACE = "ring(int,int) rate(int) area(int,int) length(int,int) swap(int) vanish(int)"
        + " cut(int,int,int) burst(int) shake(int,int,int) steps(int) relax() keep(int) again(int) cell(int,int)"
        + " side(int,int,int) wall(int,int) between(int,int,int) far(int,int) shell(int,int) shellOf(int,int,int)"
        + " way(int,int,int) mutual(int,int) about(int,int) kind(int,int) pairs(int,int) ranked(int)"
        + " around(int,int,int) rounds(int,int) spans(int,int,int) pieces(int,int) all(int) easiest() lowest(int)"
        + " reach(int,int,int) alike() until(int) rested(int,int,int,int,int) resting(int) later(int,int) gone(int)"
        + " first(int) log(int,int) count(int)";
    /** What rules 2 to 6 and 13 leave out. */
    private static final String[] OUTSIDE = {"->", "::", "\\bfinally\\b", "\\bsynchronized\\b", "\\bassert\\b",
        "\\w+Exact\\b", "\\bthis\\s*\\$", "\\bSystem\\.(?!arraycopy)", "\\bRandom\\b", "\\bThread\\b",
        "\\bstatic\\s*\\{", "\\bcatch\\b", "\\bprotected\\b", "[^\\x00-\\x7f]", "\\.hashCode\\b", "\\btoString\\b"};

    private static int wrong = 0;

    public static void main(String[] args) throws IOException {
        members();
        Path file = Path.of("src/main/java/FoamCells.java");
        String text = Files.readString(file);
        source(text);
        methodsAreShort(text);
        System.out.println(wrong == 0 ? "the face is as due" : wrong + " things are not as due");
        if (wrong != 0) {
            System.exit(1);
        }
    }

    private static void members() {
        Set<String> want = new TreeSet<>(Arrays.asList(FACE.split(" ")));
        Set<String> got = new TreeSet<>();
        for (Method m : FoamCells.class.getDeclaredMethods()) {
            if (Modifier.isPublic(m.getModifiers())) {
                StringBuilder s = new StringBuilder(m.getName()).append('(');
                for (int k = 0; k < m.getParameterCount(); k++) {
                    s.append(k == 0 ? "" : ",").append(m.getParameterTypes()[k].getName());
                }
                got.add(s.append(')').toString());
                boolean truth = m.getName().equals("keep") || m.getName().equals("again");
                see(m.getReturnType() == (truth ? boolean.class : int.class), "what " + m.getName() + " answers");
                see(!Modifier.isStatic(m.getModifiers()), m.getName() + " is static");
            } else {
                see(Modifier.isPrivate(m.getModifiers()), m.getName() + " is neither public nor private");
            }
        }
        see(got.equals(want), "the methods are " + got);
        for (Field f : FoamCells.class.getDeclaredFields()) {
            boolean none = f.getName().equals("NONE") && Modifier.isPublic(f.getModifiers());
            see(none || Modifier.isPrivate(f.getModifiers()), "field " + f.getName() + " is seen");
            see(!Modifier.isStatic(f.getModifiers()) || Modifier.isFinal(f.getModifiers()), f.getName() + " can change");
        }
        Constructor<?>[] made = FoamCells.class.getDeclaredConstructors();
        see(made.length == 1 && made[0].getParameterCount() == 0, "the constructors");
        see(Modifier.isFinal(FoamCells.class.getModifiers()), "the class is not final");
        Class<?>[] inside = FoamCells.class.getDeclaredClasses();
        see(inside.length <= 11, "too many classes");
        for (Class<?> c : inside) {
            see(Modifier.isStatic(c.getModifiers()), c + " is not static");
            see(c.getDeclaredFields().length <= 20, c + " has too many fields");
            for (Method m : c.getDeclaredMethods()) {
                see(!(" " + FACE).contains(" " + m.getName() + "("), m.getName() + " bears a public name");
                see(m.getParameterCount() <= 7, m.getName() + " takes too much");
            }
        }
    }

    private static void source(String text) {
        String code = text.replaceAll("(?s)/\\*.*?\\*/", "").replaceAll("//[^\n]*", "");
        for (String rule : OUTSIDE) {
            Matcher m = Pattern.compile(rule).matcher(code);
            see(!m.find(), "the source has " + rule);
        }
        see(code.indexOf("package ") < 0, "a package");
        Matcher m = Pattern.compile("import ([^;]*);").matcher(code);
        while (m.find()) {
            see(m.group(1).equals("java.util.NoSuchElementException"), "import " + m.group(1));
        }
    }

    /** Some sixty lines a method at most. */
    private static void methodsAreShort(String text) {
        String[] lines = text.split("\n");
        int start = -1;
        for (int k = 0; k < lines.length; k++) {
            if (lines[k].matches(" {4,8}[a-zA-Z].*\\) (throws \\w+ )?\\{")) {
                start = k;
            }
            if (lines[k].matches(" {4,8}\\}") && start >= 0) {
                see(k - start <= 60, "long: " + lines[start]);
                start = -1;
            }
        }
    }

    private static void see(boolean good, String what) {
        if (!good) {
            wrong++;
            System.out.println(what);
        }
    }
}

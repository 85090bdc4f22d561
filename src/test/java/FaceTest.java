import java.io.IOException;
import java.lang.reflect.Constructor;
import java.lang.reflect.Field;
import java.lang.reflect.Method;
import java.lang.reflect.Modifier;
import java.nio.file.Files;
import java.nio.file.Path;
import java.util.Set;
import java.util.TreeSet;
import java.util.regex.Matcher;
import java.util.regex.Pattern;

/** The public face of the document, and those rules of LANGUAGE.md that can be seen from outside. */
public final class FaceTest {
    /** What rules 2 to 6 and 13 leave out. */
    private static final String[] OUTSIDE = {"->", "::", "\\bfinally\\b", "\\bsynchronized\\b", "\\bassert\\b",
        "\\w+Exact\\b", "\\bthis\\s*\\$", "\\bSystem\\.(?!arraycopy)", "\\bRandom\\b", "\\bThread\\b",
        "\\bstatic\\s*\\{", "\\bcatch\\b", "\\bprotected\\b", "[^\\x00-\\x7f]", "\\.hashCode\\b", "\\btoString\\b"};

    private static int wrong = 0;

    public static void main(String[] args) throws IOException {
        Set<String> face = faceOf(Files.readString(Path.of("../shared/DOC.md")));
        methods(face);
        fields();
        classesInside(face);
        String text = Files.readString(Path.of("src/main/java/FoamCells.java"));
        source(text);
        methodsAreShort(text);
        System.out.println(wrong == 0 ? "the face is as due" : wrong + " things are not as due");
        if (wrong != 0) {
            System.exit(1);
        }
    }

    /** The methods of the document's face, each as "int cell(int,int) throws NoSuchElementException". */
    private static Set<String> faceOf(String document) {
        Set<String> face = new TreeSet<>();
        Matcher m = Pattern.compile("    public (\\w+ \\w+\\([^)]*\\)( throws \\w+)?);").matcher(document);
        while (m.find()) {
            face.add(m.group(1).replaceAll("int \\w+(?=[,)])", "int").replace(", ", ","));
        }
        see(face.size() == 43, "the document's face has " + face.size() + " methods");
        return face;
    }

    private static void methods(Set<String> face) {
        Set<String> got = new TreeSet<>();
        for (Method m : FoamCells.class.getDeclaredMethods()) {
            if (Modifier.isPublic(m.getModifiers())) {
                got.add(written(m));
                see(!Modifier.isStatic(m.getModifiers()), m.getName() + " is static");
            } else {
                see(Modifier.isPrivate(m.getModifiers()), m.getName() + " is neither public nor private");
                see(!bearsPublicName(m, face), m.getName() + " bears a public name");
            }
        }
        see(got.equals(face), "the methods are " + got);
        Constructor<?>[] made = FoamCells.class.getDeclaredConstructors();
        see(made.length == 1 && made[0].getParameterCount() == 0, "the constructors");
        see(made.length == 1 && Modifier.isPublic(made[0].getModifiers()), "the constructor is not public");
        see(made.length == 1 && made[0].getExceptionTypes().length == 0, "the constructor throws");
    }

    private static String written(Method m) {
        StringBuilder s = new StringBuilder(m.getReturnType().getName());
        s.append(' ').append(m.getName()).append('(');
        for (int k = 0; k < m.getParameterCount(); k++) {
            s.append(k == 0 ? "" : ",").append(m.getParameterTypes()[k].getName());
        }
        s.append(')');
        for (Class<?> thrown : m.getExceptionTypes()) {
            s.append(" throws ").append(thrown.getSimpleName());
        }
        return s.toString();
    }

    private static boolean bearsPublicName(Method m, Set<String> face) {
        for (String line : face) {
            if (line.contains(" " + m.getName() + "(")) {
                return true;
            }
        }
        return false;
    }

    private static void fields() {
        boolean found = false;
        for (Field f : FoamCells.class.getDeclaredFields()) {
            boolean none = f.getName().equals("NONE") && Modifier.isPublic(f.getModifiers());
            found |= none && f.getType() == int.class && Modifier.isStatic(f.getModifiers());
            see(none || Modifier.isPrivate(f.getModifiers()), "field " + f.getName() + " is seen");
            see(!Modifier.isStatic(f.getModifiers()) || Modifier.isFinal(f.getModifiers()), f.getName() + " can change");
        }
        see(found && FoamCells.NONE == -1, "NONE");
    }

    private static void classesInside(Set<String> face) {
        see(Modifier.isPublic(FoamCells.class.getModifiers()), "the class is not public");
        see(Modifier.isFinal(FoamCells.class.getModifiers()), "the class is not final");
        Class<?>[] inside = FoamCells.class.getDeclaredClasses();
        see(inside.length <= 11, "too many classes");
        for (Class<?> c : inside) {
            see(Modifier.isStatic(c.getModifiers()), c + " is not static");
            see(!Modifier.isPublic(c.getModifiers()), c + " is public");
            see(!Modifier.isProtected(c.getModifiers()), c + " is protected");
            see(c.getDeclaredFields().length <= 20, c + " has too many fields");
            for (Method m : c.getDeclaredMethods()) {
                see(!bearsPublicName(m, face), m.getName() + " bears a public name");
                see(m.getParameterCount() <= 7, m.getName() + " takes too much");
            }
        }
    }

    private static void source(String text) {
        String code = text.replaceAll("(?s)/\\*.*?\\*/", "").replaceAll("//[^\n]*", "");
        for (String rule : OUTSIDE) {
            Matcher m = Pattern.compile(rule).matcher(code);
            see(!m.find(), "the source has " + rule);
        }
        see(code.indexOf("package ") < 0, "a package");
        Matcher m = Pattern.compile("import ([^;]*);").matcher(code);
        while (m.find()) {
            see(m.group(1).equals("java.util.NoSuchElementException"), "import " + m.group(1));
        }
    }

    /** Some sixty lines a method at most. */
    private static void methodsAreShort(String text) {
        String[] lines = text.split("\n");
        int start = -1;
        for (int k = 0; k < lines.length; k++) {
            if (lines[k].matches(" {4,8}[a-zA-Z].*\\) (throws \\w+ )?\\{")) {
                start = k;
            }
            if (lines[k].matches(" {4,8}\\}") && start >= 0) {
                see(k - start <= 60, "long: " + lines[start]);
                start = -1;
            }
        }
    }

    private static void see(boolean good, String what) {
        if (!good) {
            wrong++;
            System.out.println(what);
        }
    }
}

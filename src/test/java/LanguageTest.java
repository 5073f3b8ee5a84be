import java.io.IOException;
import java.lang.reflect.Constructor;
import java.lang.reflect.Field;
import java.lang.reflect.Method;
import java.lang.reflect.Modifier;
import java.nio.file.Files;
import java.nio.file.Path;
import java.util.Set;
import java.util.TreeSet;
import java.util.regex.Matcher;
import java.util.regex.Pattern;

/** The rules of ../shared/LANGUAGE.md that can be seen in the source or in the compiled class. Runs in the project's folder. */
public final class LanguageTest {
    private static final Path SOURCE = Path.of("src/main/java/DraughtsTake.java");
    private static final Path DOCUMENT = Path.of("../shared/DOC.md");
    private static int wrong = 0;

    private static void due(String what, boolean so) {
        if (!so) {
            wrong++;
            System.out.println(what);
        }
    }

    /** "int feed(int)" of each line of the document's face. */
    private static Set<String> faceOfTheDocument() throws IOException {
        Set<String> face = new TreeSet<>();
        Matcher m = Pattern.compile("    public (int|long) (\\w+)\\(([^)]*)\\);").matcher(Files.readString(DOCUMENT));
        while (m.find()) {
            face.add(m.group(1) + " " + m.group(2) + "(" + m.group(3).replaceAll(" \\w+(,|$)", "$1").replace(" ", "") + ")");
        }
        return face;
    }

    private static void face() throws IOException {
        Set<String> want = faceOfTheDocument();
        Set<String> got = new TreeSet<>();
        due("the class is not public and final", Modifier.isPublic(DraughtsTake.class.getModifiers())
            && Modifier.isFinal(DraughtsTake.class.getModifiers()));
        for (Method m : DraughtsTake.class.getDeclaredMethods()) {
            if (!Modifier.isPrivate(m.getModifiers())) {
                due(m + " is not plainly public", m.getModifiers() == Modifier.PUBLIC);
                StringBuilder types = new StringBuilder();
                for (Class<?> type : m.getParameterTypes()) {
                    types.append(types.length() == 0 ? "" : ",").append(type);
                }
                got.add(m.getReturnType() + " " + m.getName() + "(" + types + ")");
            }
        }
        due("the document's face has no 45 methods: " + want.size(), want.size() == 45);
        due("the face is " + got + ", the document's " + want, got.equals(want));
        for (Constructor<?> c : DraughtsTake.class.getDeclaredConstructors()) {
            due(c + " is not public and without parameters", Modifier.isPublic(c.getModifiers()) && c.getParameterCount() == 0);
        }
        for (Field f : DraughtsTake.class.getDeclaredFields()) {
            due(f + " is not private", Modifier.isPrivate(f.getModifiers()));
        }
        privateParts(DraughtsTake.class);
        for (Class<?> inside : DraughtsTake.class.getDeclaredClasses()) {
            due(inside + " is not private and static", (inside.getModifiers() & (Modifier.PRIVATE | Modifier.STATIC))
                == (Modifier.PRIVATE | Modifier.STATIC));
            privateParts(inside);
        }
        due("more than twelve classes", DraughtsTake.class.getDeclaredClasses().length < 12);
    }

    private static void privateParts(Class<?> of) {
        Set<String> names = new TreeSet<>();
        for (Method m : DraughtsTake.class.getMethods()) {
            names.add(m.getName());
        }
        int fields = 0;
        for (Method m : of.getDeclaredMethods()) {
            due(m + " has a name of the face", Modifier.isPublic(m.getModifiers()) || !names.contains(m.getName()));
            due(m + " has more than seven parameters", m.getParameterCount() <= 7);
        }
        for (Field f : of.getDeclaredFields()) {
            if (Modifier.isStatic(f.getModifiers())) {
                due(f + " is no constant that rule 5 lists", Modifier.isFinal(f.getModifiers())
                    && Set.of("int", "long", "boolean", "char", "java.lang.String", "[I", "[J", "[C", "[B").contains(f.getType().getName()));
            } else {
                fields++;
            }
        }
        due(of + " has more than twenty fields", fields <= 20);
    }

    private static void source() throws IOException {
        String text = Files.readString(SOURCE);
        due("a sign that is none of 1 to 127", text.chars().allMatch(c -> c > 0 && c < 128));
        String code = text.replaceAll("(?s)/\\*.*?\\*/", "").replaceAll("//[^\n]*", "");
        String[] ruledOut = {"\\bimport\\b", "\\bpackage\\b", "\\btry\\b", "\\bcatch\\b", "\\bthrows?\\b", "\\bfinally\\b", "->", "::",
            "\\bsynchronized\\b", "\\bassert\\b", "\\bprotected\\b", "\\bdouble\\b", "\\bFloat\\.", "\\bDouble\\.", "Exact\\b", "\\bnative\\b",
            "\\bSystem\\.(?!arraycopy)", "\\bvolatile\\b", "static \\{", "\\bwhile\\b", "@", "\\bMath\\.(?!min|max|abs)", "\"", "\\bstrictfp\\b"};
        for (String word : ruledOut) {
            Matcher m = Pattern.compile(word).matcher(code);
            due("the source has " + word, !m.find());
        }
        // All objects and arrays are made with the object itself: no call makes one.
        for (String line : code.split("\n")) {
            due("made by a call: " + line, !line.contains("new ") || line.matches(" +(private )?final .* = new .*;| +kept\\[k\\] = new House\\(\\);"));
        }
        methodsAreShort(code);
    }

    private static void methodsAreShort(String code) {
        int start = 0;
        int at = 0;
        for (String line : code.split("\n")) {
            at++;
            if (line.matches("( {4}| {8})\\S.*\\) \\{")) {
                start = at;
            }
            due("a long method up to line " + at, !line.matches("( {4}| {8})\\}") || at - start <= 60);
        }
    }

    public static void main(String[] args) throws IOException {
        face();
        source();
        System.out.println(wrong == 0 ? "the source keeps to the rules" : wrong + " breaches");
        if (wrong != 0) {
            System.exit(1);
        }
    }
}

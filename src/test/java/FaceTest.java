import java.io.IOException;
import java.lang.reflect.Constructor;
import java.lang.reflect.Field;
import java.lang.reflect.Method;
import java.lang.reflect.Modifier;
import java.nio.file.Files;
import java.nio.file.Path;
import java.util.Arrays;
import java.util.HashSet;
import java.util.Set;
import java.util.TreeSet;
import java.util.regex.Matcher;
import java.util.regex.Pattern;

/** The public face is the document's, and the source has nothing that LANGUAGE.md rules out and a word gives away. */
public final class FaceTest extends TestKit {
    private static final Class<?> FACE = SevenUnsaid.class;

    public static void main(String[] args) throws IOException, ReflectiveOperationException {
        faceIsTheDocuments();
        constants();
        nothingElseIsSeen();
        classesInside();
        staticFields();
        words();
        finish("the face is the document's");
    }

    /** "The public face", line by line, without the names of what is handed in. */
    private static void faceIsTheDocuments() {
        Set<String> want = new TreeSet<>(Set.of("SevenUnsaid()", "int state(int)", "int person(int)",
            "int rule(int, int, int)", "boolean set(int, int, int)", "boolean change(int, int)",
            "int feed(int, int, int, int, int)", "boolean end(int)", "int text()", "int fault(int)", "int play(int)",
            "int of(int, int)", "int told(int, int)", "int has(int)", "int book(int, int)", "int whose(int)",
            "int get(int)", "int hardest(int)", "int words(int, int)", "int sit(int)", "int plain(int, int, int)",
            "int third(int, int, int, int)", "int fewest(int, int, int)", "int seating(int, int)",
            "int behind(int, int)", "boolean undo()", "boolean image(boolean)", "int look(int)"));
        Set<String> got = new TreeSet<>();
        for (Constructor<?> c : FACE.getConstructors()) {
            got.add("SevenUnsaid(" + types(c.getParameterTypes()) + ")");
        }
        for (Method m : FACE.getDeclaredMethods()) {
            if (Modifier.isPublic(m.getModifiers())) {
                got.add(m.getReturnType() + " " + m.getName() + "(" + types(m.getParameterTypes()) + ")");
            }
        }
        due("the face", got.toString(), want.toString());
        due("the class's modifiers", FACE.getModifiers(), Modifier.PUBLIC | Modifier.FINAL);
    }

    private static String types(Class<?>[] types) {
        return String.join(", ", Arrays.stream(types).map(Class::getName).toList());
    }

    private static void constants() {
        Field[] fields = FACE.getFields();
        due("public fields", fields.length, 1);
        due("NONE", SevenUnsaid.NONE, -1);
        due("the public field", fields[0].toString(), "public static final int SevenUnsaid.NONE");
    }

    /** Rule 1: all else is private, and no private method bears the name of a public one. */
    private static void nothingElseIsSeen() {
        Set<String> open = new HashSet<>();
        for (Method m : FACE.getDeclaredMethods()) {
            if (Modifier.isPublic(m.getModifiers())) {
                open.add(m.getName());
            }
        }
        for (Method m : FACE.getDeclaredMethods()) {
            int is = m.getModifiers();
            due("private or public: " + m, Modifier.isPublic(is) || Modifier.isPrivate(is), true);
            due("a name of its own: " + m, Modifier.isPrivate(is) && open.contains(m.getName()), false);
        }
        for (Field f : FACE.getDeclaredFields()) {
            due("private: " + f, Modifier.isPrivate(f.getModifiers()) || f.getName().equals("NONE"), true);
        }
        due("constructors", FACE.getDeclaredConstructors().length, 1);
    }

    /** Rules 1, 2, 11: static, not public, at most some twelve in the file; at most seven parameters, twenty fields. */
    private static void classesInside() {
        Class<?>[] inside = FACE.getDeclaredClasses();
        due("classes in the file, " + (inside.length + 1), inside.length + 1 <= 12, true);
        for (Class<?> c : inside) {
            int is = c.getModifiers();
            due("static: " + c, Modifier.isStatic(is), true);
            due("hidden: " + c, Modifier.isPublic(is) || Modifier.isProtected(is), false);
            due("no class inside: " + c, c.getDeclaredClasses().length, 0);
            for (Method m : c.getDeclaredMethods()) {
                due("seven parameters at most: " + m, m.getParameterCount() <= 7, true);
            }
            long own = Arrays.stream(c.getDeclaredFields()).filter(f -> !Modifier.isStatic(f.getModifiers())).count();
            due("twenty fields at most: " + c, own <= 20, true);
        }
    }

    /** Rule 5. */
    private static void staticFields() {
        Set<Class<?>> kinds = Set.of(int.class, long.class, boolean.class, char.class, String.class);
        for (Class<?> c : allClasses()) {
            for (Field f : c.getDeclaredFields()) {
                if (Modifier.isStatic(f.getModifiers())) {
                    boolean constant = Modifier.isFinal(f.getModifiers()) && kinds.contains(f.getType());
                    due("a constant: " + f, constant, true);
                }
            }
        }
    }

    private static Class<?>[] allClasses() {
        Class<?>[] inside = FACE.getDeclaredClasses();
        Class<?>[] all = Arrays.copyOf(inside, inside.length + 1);
        all[inside.length] = FACE;
        return all;
    }

    /** Rules 2, 4, 6, 13: words and signs that no line but a comment or a text may have. */
    private static void words() throws IOException {
        String source = Files.readString(Path.of("src/main/java/SevenUnsaid.java"))
                .replaceAll("(?s)/\\*.*?\\*/", " ").replaceAll("//[^\n]*", " ")
                .replaceAll("\"[^\"\n]*\"", "\"\"").replaceAll("'[^'\n]'", "' '");
        String[] never = {"throw", "throws", "try", "catch", "finally", "synchronized", "assert", "package", "native",
            "volatile", "var", "yield", "Random", "Thread", "Exception", "Error", "Object", "hashCode", "toString"};
        for (String word : never) {
            due("the word " + word, Pattern.compile("\\b" + word + "\\b").matcher(source).find(), false);
        }
        due("a lambda", source.contains("->"), false);
        due("a method reference", source.contains("::"), false);
        Matcher imports = Pattern.compile("import ([^;]*);").matcher(source);
        while (imports.find()) {
            due("import " + imports.group(1), imports.group(1).matches("java\\.util\\.(Arrays|ArrayList|List)"), true);
        }
        Matcher library = Pattern.compile("\\b(Arrays|System|Math|Integer)\\.(\\w+)").matcher(source);
        Set<String> listed = Set.of("Arrays.fill", "Arrays.copyOf", "Arrays.copyOfRange", "System.arraycopy", "Math.max",
            "Math.min", "Math.abs", "Math.floorMod", "Math.floorDiv", "Integer.bitCount", "Integer.compare");
        while (library.find()) {
            due("listed: " + library.group(), listed.contains(library.group()), true);
        }
    }
}

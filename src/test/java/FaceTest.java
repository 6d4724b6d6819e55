import java.io.IOException;
import java.lang.reflect.Constructor;
import java.lang.reflect.Field;
import java.lang.reflect.Method;
import java.lang.reflect.Modifier;
import java.nio.file.Files;
import java.nio.file.Path;
import java.util.Arrays;
import java.util.Set;
import java.util.TreeSet;
import java.util.regex.Matcher;
import java.util.regex.Pattern;

/** The face is the document's, member by member, and the source keeps to the language that is left to it. */
public final class FaceTest {
    private static final Path DOC = Path.of("../shared/DOC.md");
    private static final Path SOURCE = Path.of("src/main/java/PackedCases.java");
    private static final String[] BANNED = {
        "\\bcatch\\b", "\\btry\\b", "\\bfinally\\b", "\\bassert\\b", "\\bsynchronized\\b", "->", "::",
        "Exact\\(", "\\bSystem\\.(?!arraycopy)", "\\bRandom\\b", "\\bThread\\b", "\\bdouble\\b", "\\bfloat\\b",
        "\\bprotected\\b", "static \\{", "\\.toString\\(", "\\.hashCode\\(", "= null"};

    private FaceTest() {
    }

    public static void main(String[] args) throws IOException {
        Check check = new Check();
        Set<String> due = documented(Files.readString(DOC));
        Set<String> found = declared();
        for (String member : due) {
            check.due("has " + member, found.contains(member), true);
        }
        for (String member : found) {
            check.due("may have " + member, due.contains(member), true);
        }
        check.due("is public and final", Modifier.isPublic(PackedCases.class.getModifiers())
                && Modifier.isFinal(PackedCases.class.getModifiers()), true);
        check.due("NONE", PackedCases.NONE, -1);
        source(check, Files.readString(SOURCE));
        shapes(check, PackedCases.class);
        for (Class<?> inside : PackedCases.class.getDeclaredClasses()) {
            check.due(inside.getName() + " is static", Modifier.isStatic(inside.getModifiers()), true);
            check.due(inside.getName() + " is not public", Modifier.isPublic(inside.getModifiers()), false);
            shapes(check, inside);
        }
        check.end();
    }

    /** "No private method bears the name of a public one"; at most seven parameters, some twenty fields. */
    private static void shapes(Check check, Class<?> of) {
        Set<String> face = new TreeSet<>();
        for (Method m : PackedCases.class.getDeclaredMethods()) {
            if (Modifier.isPublic(m.getModifiers())) {
                face.add(m.getName());
            }
        }
        for (Method m : of.getDeclaredMethods()) {
            String name = of.getSimpleName() + "." + m.getName();
            check.due(name + " is private and of the face",
                    Modifier.isPrivate(m.getModifiers()) && face.contains(m.getName()), false);
            check.due(name + " takes more than seven", m.getParameterCount() > 7, false);
        }
        int fields = 0;
        for (Field f : of.getDeclaredFields()) {
            fields += Modifier.isStatic(f.getModifiers()) ? 0 : 1;
            check.due(f + " is static and not final",
                    Modifier.isStatic(f.getModifiers()) && !Modifier.isFinal(f.getModifiers()), false);
        }
        check.due(of.getSimpleName() + " has more than twenty fields", fields > 20, false);
    }

    private static Set<String> documented(String doc) {
        Set<String> members = new TreeSet<>();
        String face = doc.substring(doc.indexOf("```java"), doc.indexOf("## Terms"));
        Matcher m = Pattern.compile("public (\\w+ )?(\\w+)\\(([^)]*)\\)( throws ([\\w, ]+))?;").matcher(face);
        while (m.find()) {
            String kind = m.group(1) == null ? "" : m.group(1).trim();
            int arity = m.group(3).isEmpty() ? 0 : m.group(3).split(",").length;
            Set<String> thrown = new TreeSet<>();
            if (m.group(5) != null) {
                thrown.addAll(Arrays.asList(m.group(5).split(", ")));
            }
            members.add(kind + " " + m.group(2) + " " + arity + " " + thrown);
        }
        members.add("field NONE");
        return members;
    }

    private static Set<String> declared() {
        Set<String> members = new TreeSet<>();
        for (Method m : PackedCases.class.getDeclaredMethods()) {
            if (!Modifier.isPrivate(m.getModifiers())) {
                members.add(m.getReturnType().getSimpleName() + " " + m.getName() + " " + m.getParameterCount()
                        + " " + names(m.getExceptionTypes()));
            }
        }
        for (Constructor<?> c : PackedCases.class.getDeclaredConstructors()) {
            members.add(" PackedCases " + c.getParameterCount() + " " + names(c.getExceptionTypes()));
        }
        for (Field f : PackedCases.class.getDeclaredFields()) {
            if (!Modifier.isPrivate(f.getModifiers())) {
                members.add("field " + f.getName());
            }
        }
        return members;
    }

    private static Set<String> names(Class<?>[] kinds) {
        Set<String> names = new TreeSet<>();
        for (Class<?> kind : kinds) {
            names.add(kind.getSimpleName());
        }
        return names;
    }

    private static void source(Check check, String text) {
        for (String banned : BANNED) {
            check.due("source has " + banned, Pattern.compile(banned).matcher(text).find(), false);
        }
        Matcher imports = Pattern.compile("import ([\\w.*]+);").matcher(text);
        while (imports.find()) {
            check.due("import " + imports.group(1),
                    Set.of("java.util.NoSuchElementException").contains(imports.group(1)), true);
        }
        Matcher thrown = Pattern.compile("throw ([^;(]+)").matcher(text);
        while (thrown.find()) {
            check.due(thrown.group(), Set.of("new NoSuchElementException", "new IllegalArgumentException")
                    .contains(thrown.group(1)), true);
        }
        int classes = PackedCases.class.getDeclaredClasses().length + 1;
        check.due("classes are at most twelve", classes <= 12, true);
    }
}

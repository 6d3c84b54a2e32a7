import java.io.IOException;
import java.lang.reflect.Constructor;
import java.lang.reflect.Field;
import java.lang.reflect.Method;
import java.lang.reflect.Modifier;
import java.nio.file.Files;
import java.nio.file.Path;
import java.util.HashSet;
import java.util.Set;
import java.util.regex.Matcher;
import java.util.regex.Pattern;

/** The rules of LANGUAGE.md that can be looked up in the source and in the compiled class. */
public final class LanguageTest {
    private static final String[] FORBIDDEN = {"\\bthrow\\b", "\\btry\\b", "\\bcatch\\b", "\\bfinally\\b",
        "\\bsynchronized\\b", "\\bassert\\b", "->", "::", "\\bpackage\\b", "\\bdouble\\b",
        "\\bfloat\\b", "\\bvar\\b", "Exact\\b", "\\bSystem\\.(?!arraycopy)", "\\.(hashCode|getClass)\\(",
        "\\bprotected\\b", "\\bstatic \\{", "\\b(Integer|Long|Math)\\.[A-Z]",
        "\\bArrays\\.(?!(copyOf|copyOfRange|fill)\\()"};

    public static void main(String[] args) throws IOException {
        String source = Files.readString(Path.of("src/main/java/ServantRegistry.java"));
        Check.due("plain signs alone", source.chars().allMatch(c -> c == '\n' || c >= 32 && c < 127), true);
        String code = source.replaceAll("(?s)/\\*.*?\\*/", "").replaceAll("//[^\n]*", "")
                .replaceAll("\"[^\"]*\"", "\"\"");
        for (String word : FORBIDDEN) {
            Check.due("source has " + word, Pattern.compile(word).matcher(code).find(), false);
        }
        imports(code);
        face();
        methodLengths(code);
        Check.end();
    }

    private static void imports(String code) {
        Matcher found = Pattern.compile("import ([^;]+);").matcher(code);
        while (found.find()) {
            boolean allowed = found.group(1).matches("java\\.util\\.(ArrayList|Arrays|List)");
            Check.due("import of " + found.group(1), allowed, true);
        }
    }

    private static void face() {
        Class<?> face = ServantRegistry.class;
        Set<String> publicNames = new HashSet<>();
        for (Method m : face.getDeclaredMethods()) {
            if (Modifier.isPublic(m.getModifiers())) {
                publicNames.add(m.getName());
            } else {
                Check.due("private: " + m, Modifier.isPrivate(m.getModifiers()), true);
            }
        }
        Check.due("public methods", publicNames.size(), 36);
        for (Constructor<?> c : face.getDeclaredConstructors()) {
            Check.due("constructor: " + c, Modifier.isPublic(c.getModifiers()) && c.getParameterCount() == 0, true);
        }
        fields(face);
        Check.due("final", Modifier.isFinal(face.getModifiers()), true);
        Check.due("classes inside", face.getDeclaredClasses().length <= 12, true);
        for (Class<?> inside : face.getDeclaredClasses()) {
            Check.due("static: " + inside, Modifier.isStatic(inside.getModifiers()), true);
            fields(inside);
            for (Method m : inside.getDeclaredMethods()) {
                Check.due("a name of the face: " + m, publicNames.contains(m.getName()), false);
                Check.due("seven parameters: " + m, m.getParameterCount() <= 7, true);
            }
        }
    }

    private static void fields(Class<?> owner) {
        int own = 0;
        for (Field f : owner.getDeclaredFields()) {
            boolean isStatic = Modifier.isStatic(f.getModifiers());
            own += isStatic ? 0 : 1;
            Check.due("static and not final: " + f, isStatic && !Modifier.isFinal(f.getModifiers()), false);
            if (owner == ServantRegistry.class && !f.getName().equals("NONE")) {
                Check.due("private: " + f, Modifier.isPrivate(f.getModifiers()), true);
            }
        }
        Check.due("fields of " + owner, own <= 20, true);
    }

    /** A method's body ends at the first closing brace that is as far in as its head. */
    private static void methodLengths(String code) {
        String[] lines = code.split("\n");
        for (int i = 0; i < lines.length; i++) {
            boolean head = lines[i].matches(" {4,8}[a-zA-Z].*\\(.*") && !lines[i].contains(" new ")
                    && !lines[i].endsWith(";");
            String end = lines[i].replaceAll("\\S.*", "") + "}";
            int to = i;
            while (head && to < lines.length - 1 && !lines[to].equals(end)) {
                to++;
            }
            Check.due("lines of " + lines[i].trim(), to - i < 60, true);
        }
    }
}

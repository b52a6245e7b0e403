import java.lang.reflect.Method;
import java.lang.reflect.Modifier;
import java.nio.file.Files;
import java.nio.file.Path;
import java.util.HashSet;
import java.util.List;
import java.util.Set;
import java.util.regex.Matcher;
import java.util.regex.Pattern;

/** What of LANGUAGE.md can be seen by looking for words, and by the face. */
public final class LanguageTest {
    private static final List<String> FORBIDDEN = List.of("\\bthrow\\b", "\\bthrows\\b", "\\btry\\b", "\\bcatch\\b",
        "\\bsynchronized\\b", "\\bassert\\b", "\\bimport\\b", "\\bpackage\\b", "->", "::", "\\bstatic\\s*\\{", "\\bprotected\\b",
        "\\bhashCode\\b", "\\btoString\\b", "Exact\\b", "\\bvolatile\\b", "\\bnative\\b", "\\bObject\\b", "\\bDouble\\b",
        "\\bMath\\.(?!min\\b|max\\b|abs\\b|floorDiv\\b|floorMod\\b)");
    private static final Check check = new Check();

    public static void main(String[] args) throws Exception {
        String source = Files.readString(Path.of("src/main/java/IntentVats.java"));
        String bare = source.replaceAll("(?s)/\\*.*?\\*/", " ").replaceAll("//[^\n]*", " ").replaceAll("\"[^\"\n]*\"", "\"\"");
        for (String word : FORBIDDEN) {
            Matcher m = Pattern.compile(word).matcher(bare);
            check.due("forbidden " + word, m.find() ? 1 : 0, 0);
        }
        face();
        names();
        methodLengths(source);
        check.end();
    }

    private static void face() {
        int open = 0;
        for (Method m : IntentVats.class.getDeclaredMethods()) {
            if (Modifier.isPublic(m.getModifiers())) open++;
            else check.due("private " + m.getName(), Modifier.isPrivate(m.getModifiers()) ? 1 : 0, 1);
        }
        check.due("public methods", open, 48);
        check.due("constructors", IntentVats.class.getDeclaredConstructors().length, 1);
        check.due("public fields", IntentVats.class.getFields().length, 3);
        check.due("final", Modifier.isFinal(IntentVats.class.getModifiers()) ? 1 : 0, 1);
        for (Class<?> inside : IntentVats.class.getDeclaredClasses()) {
            check.due("static " + inside, Modifier.isStatic(inside.getModifiers()) ? 1 : 0, 1);
            check.due("private " + inside, Modifier.isPrivate(inside.getModifiers()) ? 1 : 0, 1);
        }
        check.due("at most twelve classes", IntentVats.class.getDeclaredClasses().length <= 11 ? 1 : 0, 1);
    }

    private static void names() {
        Set<String> open = new HashSet<>();
        for (Method m : IntentVats.class.getDeclaredMethods()) if (Modifier.isPublic(m.getModifiers())) open.add(m.getName());
        for (Method m : IntentVats.class.getDeclaredMethods()) {
            if (!Modifier.isPublic(m.getModifiers())) check.due("name " + m.getName(), open.contains(m.getName()) ? 1 : 0, 0);
        }
        for (Class<?> inside : IntentVats.class.getDeclaredClasses()) {
            for (Method m : inside.getDeclaredMethods()) check.due("name " + m.getName(), open.contains(m.getName()) ? 1 : 0, 0);
        }
    }

    private static void methodLengths(String source) {
        int lines = 0;
        for (String line : source.split("\n")) {
            boolean ends = line.equals("    }") || line.equals("        }");
            lines = ends || line.isBlank() ? 0 : lines + 1;
            check.due("a method of over sixty lines at " + line, lines > 60 ? 1 : 0, 0);
        }
    }
}

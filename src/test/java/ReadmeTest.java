import java.lang.reflect.Method;
import java.lang.reflect.Modifier;
import java.nio.file.Files;
import java.nio.file.Path;
import java.util.List;

/** What README.md shows: each call answers what is written behind it, and no call of the face is left out. */
public final class ReadmeTest {
    private static final Check check = new Check();
    private static List<String> lines;
    private static int shown = 0;

    public static void main(String[] args) throws Exception {
        lines = Files.readAllLines(Path.of("README.md"));
        calls();
        texts();
        check.due("calls that README shows with an answer", linesWithAnswer(), shown);
        wholeFace();
        check.end();
    }

    private static void calls() {
        IntentVats mill = new IntentVats();
        shows("mill.cloth(0);", mill.cloth(0));
        shows("mill.cloth(1);", mill.cloth(1));
        shows("mill.dip(0, 2);", mill.dip(0, 2));
        shows("mill.of(0, 2);", mill.of(0, 2));
        shows("mill.hang(0, 1);", mill.hang(0, 1));
        shows("mill.bare(0);", mill.bare(0));
        shows("mill.days(3);", mill.days(3));
        shows("mill.of(1, 1);", mill.of(1, 1));
        shows("mill.through(1, 5);", mill.through(1, 5));
        shows("mill.gone(1, 30);", mill.gone(1, 30));
        shows("mill.dip(9, 2);", mill.dip(9, 2));
    }

    private static void texts() {
        IntentVats mill = new IntentVats();
        String told = "wool about 3 deep 40; linen hung; day 0 vat 7; slip 35;";
        String faulty = "felt; wool abuot 3;";
        shows("tell(mill, \"" + told + "\");", Check.millOf(mill, told));
        shows("tell(mill, \"" + faulty + "\");", Check.millOf(mill, faulty));
        shows("mill.many(0);", mill.many(0));
    }

    private static void shows(String call, long answer) {
        shown++;
        for (String line : lines) {
            if (line.startsWith(call + " ") && line.contains(" // " + answer + ": ")) return;
        }
        check.same("README's line of " + call, "missing or otherwise", "// " + answer + ":");
    }

    private static int linesWithAnswer() {
        int found = 0;
        for (String line : lines) if (line.matches(".*; +// -?\\d+: .*")) found++;
        return found;
    }

    private static void wholeFace() {
        String text = String.join("\n", lines);
        for (Method m : IntentVats.class.getDeclaredMethods()) {
            if (!Modifier.isPublic(m.getModifiers())) continue;
            check.due("README's table has " + m.getName(), text.contains("`" + m.getName() + "`") ? 1 : 0, 1);
        }
    }
}

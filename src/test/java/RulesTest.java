import java.io.IOException;
import java.nio.file.Files;
import java.nio.file.Path;
import java.util.regex.Matcher;
import java.util.regex.Pattern;

/** The rules of LANGUAGE.md that a look at the source can hold to, and the room that the objects take. */
public final class RulesTest {
    private static final Path SOURCE = Path.of("src/main/java/TrueSheets.java");
    private static final int MOST_LINES_OF_A_METHOD = 60;

    private static final String[] FORBIDDEN = {
        "\\bimport\\b", "\\bpackage\\b", "->", "::", "\\bcatch\\b", "\\btry\\b", "\\bfinally\\b", "\\bsynchronized\\b",
        "\\bassert\\b", "\\binstanceof\\b", "\\bSystem\\.(?!arraycopy)", "\\bMath\\.(?!max|min|abs)",
        "Exact\\(", "\\bThread\\b", "\\bRandom\\b", "\\bequals\\(", "\\bhashCode\\b", "\\btoString\\b", "\\bvar\\b",
        "\\bprotected\\b", "\\bextends\\b", "\\bObject\\b", "[^\\x00-\\x7f]", "\\t"
    };

    public static void main(String[] args) throws IOException {
        String source = Files.readString(SOURCE);
        String code = withoutComments(source);
        for (String forbidden : FORBIDDEN) {
            Matcher matcher = Pattern.compile(forbidden).matcher(code);
            Run.check("the source has " + forbidden, matcher.find() ? matcher.group() : "", "");
        }
        thrown(code);
        lengthOfMethods(source);
        room();
        Run.end("RulesTest");
    }

    private static String withoutComments(String source) {
        return source.replaceAll("(?s)/\\*.*?\\*/", "").replaceAll("//[^\n]*", "");
    }

    private static void thrown(String code) {
        Matcher matcher = Pattern.compile("\\bthrow\\b([^;]*);").matcher(code);
        int throwsFound = 0;
        while (matcher.find()) {
            throwsFound++;
            boolean isAllowed = matcher.group(1).matches(
                " new (IllegalStateException|IllegalArgumentException|IndexOutOfBoundsException)\\(\"[^\"]*\"\\)");
            Run.check("throw" + matcher.group(1) + " is allowed", isAllowed, true);
        }
        Run.check("there are throws", throwsFound > 0, true);
    }

    private static void lengthOfMethods(String source) {
        String[] lines = source.split("\n");
        int start = -1;
        String indent = "";
        for (int i = 0; i < lines.length; i++) {
            Matcher head = Pattern.compile("^( {4}| {8})[a-zA-Z].*\\).*\\{$").matcher(lines[i]);
            if (start < 0 && head.find() && !lines[i].contains(" class ")) {
                start = i;
                indent = head.group(1);
            } else if (start >= 0 && lines[i].equals(indent + "}")) {
                Run.check(lines[start].trim() + " is short", i - start < MOST_LINES_OF_A_METHOD, true);
                start = -1;
            }
        }
    }

    /** After the constructor only exceptions are made: 512 of the dearest calls take next to nothing. */
    private static void room() {
        com.sun.management.ThreadMXBean bean =
            (com.sun.management.ThreadMXBean) java.lang.management.ManagementFactory.getThreadMXBean();
        useAll(new TrueSheets());
        long before = bean.getThreadAllocatedBytes(Thread.currentThread().getId());
        TrueSheets sheets = new TrueSheets();
        long made = bean.getThreadAllocatedBytes(Thread.currentThread().getId());
        useAll(sheets);
        long used = bean.getThreadAllocatedBytes(Thread.currentThread().getId());
        Run.check("an object takes " + (made - before) + " bytes, which is little", made - before < 100000, true);
        Run.check("500 calls take " + (used - made) + " bytes, which is next to nothing", used - made < 10000, true);
    }

    private static void useAll(TrueSheets sheets) {
        for (char sign : "draw;draw0;draw1;print2@0;stamp0/0;rev2:0,11;run30".toCharArray()) {
            sheets.append(sign);
        }
        sheets.load();
        for (int i = 0; i < 60; i++) {
            sheets.errorPosition();
            sheets.simulate(i, 80);
            sheets.runScript(3, 100000200000500030L);
            sheets.set(0, 1);
            sheets.save(i % 2);
            sheets.coming(30);
            sheets.ifRevised(2, 5, i % 4);
        }
        sheets.load();
        sheets.save(0);
        sheets.restore(0);
    }
}

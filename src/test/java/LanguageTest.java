import java.io.IOException;
import java.nio.file.Files;
import java.nio.file.Path;
import java.util.List;

/** Some of the rules of LANGUAGE.md that the program's text shows. Runs where src stands. */
public final class LanguageTest {
    private static final Check check = new Check("LanguageTest");
    /** What the program needs none of, so that it is simply not to stand there. */
    private static final String[] BANNED = {"->", "::", " catch ", " try ", "finally", "synchronized", "assert ",
        "Exact(", " instanceof ", "package ", "System.", "Random", "toString", "hashCode", "equals(", "NaN", "native ",
        "Double.", "Float.", "double[", "float[", "@Override", " enum ", " record ", " var ", "volatile", "transient"};

    public static void main(String[] args) throws IOException {
        List<String> lines = Files.readAllLines(Path.of("src/main/java/PartcopyistBench.java"));
        for (int i = 0; i < lines.size(); i++) {
            lookAtLine(i + 1, lines.get(i));
        }
        check.end();
    }

    private static void lookAtLine(int number, String line) {
        String code = line.contains("//") ? line.substring(0, line.indexOf("//")) : line;
        boolean isText = line.trim().startsWith("*") || line.trim().startsWith("/**");
        for (String banned : BANNED) {
            check.same("line " + number + " has " + banned, false, () -> !isText && code.contains(banned));
        }
        check.same("line " + number + " imports", true, () -> !line.startsWith("import ")
                || line.equals("import java.util.NoSuchElementException;"));
        check.same("line " + number + " has other signs", true, () -> line.chars().allMatch(c -> c < 128));
    }
}

import java.io.IOException;
import java.nio.file.Files;
import java.nio.file.Path;
import java.util.List;
import java.util.regex.Pattern;

/** What of LANGUAGE.md can be seen in the source by its words and its shape alone; run from the project's root. */
public final class LanguageTest {
    private static final Path SOURCE = Path.of("src/main/java/DavRoom.java");
    private static final Pattern RULED_OUT = Pattern.compile(
            "\\b(throws?|try|catch|finally|synchronized|assert|package|import|equals|hashCode|toString|volatile|native|Exact)\\b|->|::|System\\.(?!arraycopy)");
    private static final Pattern CODE_TEXT = Pattern.compile("\"[^\"]*\"|//.*|/\\*\\*.*\\*/");
    private static final int MOST_LINES = 60;

    public static void main(String[] args) throws IOException {
        List<String> lines = Files.readAllLines(SOURCE);
        int start = 0;
        String opening = null;
        for (int k = 0; k < lines.size(); k++) {
            String code = CODE_TEXT.matcher(lines.get(k)).replaceAll("");
            Room.due("line " + (k + 1) + " is ruled out: " + code, RULED_OUT.matcher(code).find() ? 1 : 0, 0);
            if (opening == null && code.matches("\\s+(?!.*\\bclass\\b).*\\w\\(.*\\) \\{")) {
                opening = code.substring(0, code.length() - code.stripLeading().length()) + "}";
                start = k;
            } else if (code.equals(opening)) {
                Room.due("the method at line " + (start + 1) + " is short", k - start < MOST_LINES ? 1 : 0, 1);
                opening = null;
            }
        }
        Room.finish();
    }
}

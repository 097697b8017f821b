import java.io.IOException;
import java.nio.file.Files;
import java.nio.file.Path;
import java.util.regex.Matcher;
import java.util.regex.Pattern;

/** Words of Java that LANGUAGE.md leaves out are not in the program; its methods stay short. */
public final class LanguageTest {
    private static final String[] BANNED = {
        "->", "::", "\\bfinally\\b", "\\bsynchronized\\b", "\\bassert\\b", "\\bcatch\\b", "\\btry\\b", "Exact\\(",
        "\\bSystem\\b(?!\\.arraycopy)", "\\bThread\\b", "\\bRandom\\b", "MAX_VALUE", "MIN_VALUE",
        "\\bMap\\b", "\\bSet\\b", "\\bHashMap\\b", "\\bObject\\b", "\\bObjects\\b", "\\bpackage\\b", "\\bvar\\b",
        "\\bgetMessage\\b", "\\bhashCode\\b", "\\btoString\\b", "static \\{",
        "^import (?!java\\.util\\.(Arrays|ArrayList|List|Iterator|NoSuchElementException);)",
    };

    public static void main(String[] args) throws IOException {
        Checks checks = new Checks();
        String source = Files.readString(Path.of("src/main/java/TrackRoutes.java"));
        String code = source.replaceAll("(?s)/\\*.*?\\*/", "").replaceAll("//[^\n]*", "")
            .replaceAll("\"[^\"\n]*\"", "\"\"");
        for (String word : BANNED) {
            Matcher found = Pattern.compile(word, Pattern.MULTILINE).matcher(code);
            checks.due("'" + word + "' stands in the program", found.find(), false);
        }
        checks.due("longest method is short", longestMethod(code) <= 60, true);
        checks.end("LanguageTest");
    }

    private static int longestMethod(String code) {
        int longest = 0;
        int begun = -1;
        String indent = "";
        String[] lines = code.split("\n");
        Pattern head = Pattern.compile("^( {4}| {8})(?!class|private static final class)\\w[^;=]*\\)[^;]*\\{$");
        for (int k = 0; k < lines.length; k++) {
            Matcher opens = head.matcher(lines[k]);
            if (begun < 0 && opens.find() && !lines[k].contains(" if (") && !lines[k].contains(" for (")) {
                begun = k;
                indent = opens.group(1);
            } else if (begun >= 0 && lines[k].equals(indent + "}")) {
                longest = Math.max(longest, k - begun + 1);
                begun = -1;
            }
        }
        return longest;
    }
}

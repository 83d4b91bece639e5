import java.io.IOException;
import java.nio.file.Files;
import java.nio.file.Path;
import java.util.ArrayList;
import java.util.List;
import java.util.TreeSet;
import java.util.regex.Matcher;
import java.util.regex.Pattern;

/** What ../shared/LANGUAGE.md asks of the source, as far as a look at its signs can tell. */
public final class Language {
    private static final String[] FORBIDDEN = {"throw", "throws", "try", "catch", "finally", "synchronized", "assert",
        "import", "package", "lambda", "var", "protected", "double", "float", "native", "volatile", "transient", "Thread",
        "Object", "Random", "equals", "hashCode", "toString", "format"};

    public static void main(String[] args) throws IOException {
        String source = code(Files.readString(source()));
        for (String word : FORBIDDEN) {
            Check.due("'" + word + "' in the source", count(source, "\\b" + word + "\\b"), 0);
        }
        for (String sign : new String[] {"->", "::", "...", "@", "?>", "System", "while (true)", "for (;;)"}) {
            Check.due("'" + sign + "' in the source", count(source, Pattern.quote(sign)), 0);
        }
        Check.due("names that end in Exact", count(source, "\\w+Exact\\b"), 0);
        Check.due("static blocks", count(source, "static\\s*\\{"), 0);
        Check.due("strings joined by +", count(source, "\"\\s*\\+|\\+\\s*\""), 0);
        face(source);
        lengths(source);
        Check.end("Language");
    }

    private static Path source() {
        for (Path folder = Path.of("").toAbsolutePath(); folder != null; folder = folder.getParent()) {
            Path file = folder.resolve("src/main/java/TwoCards.java");
            if (Files.exists(file)) {
                return file;
            }
        }
        throw new IllegalStateException("no source above " + Path.of("").toAbsolutePath());
    }

    /** Without comments; what strings hold is left out. */
    private static String code(String source) {
        return source.replaceAll("(?s)/\\*.*?\\*/", "").replaceAll("//[^\n]*", "").replaceAll("\"[^\"\n]*\"", "\"\"");
    }

    private static int count(String source, String pattern) {
        Matcher matcher = Pattern.compile(pattern).matcher(source);
        int found = 0;
        while (matcher.find()) {
            found++;
        }
        return found;
    }

    /** The public members are those of the document; no other method of the source bears their names. */
    private static void face(String source) {
        String[] due = {"NONE", "TwoCards", "back", "brief", "code", "count", "debt", "doubt", "end", "ends", "feed", "first",
            "game", "hangs", "harsh", "history", "image", "keeps", "late", "may", "mend", "move", "must", "otherwise",
            "person", "quarrel", "ring", "state", "thinks", "told", "waits", "ways", "weighs"};
        List<String> names = new ArrayList<>();
        Matcher matcher = Pattern.compile("(?m)^    public (?:static )?(?:final )?(?:\\w+ )?(\\w+)(?=[ (])").matcher(source);
        while (matcher.find()) {
            names.add(matcher.group(1));
        }
        Check.due("public members", names.size(), due.length);
        Check.due("as told", String.join(" ", new TreeSet<>(names)).equals(String.join(" ", due)), true);
        Check.due("members of the class neither public nor private", count(source,
            "(?m)^    (?!public |private |\\}|return)[\\w\\[\\]]+ "), 0);
        for (String name : due) {
            Check.due("other methods named " + name,
                count(source, "(?m)^        (?:private |static |final )*[\\w\\[\\]]+ " + name + "\\([^;]*\\{"), 0);
        }
    }

    /** Methods of some sixty lines at most, of seven parameters but for the face. */
    private static void lengths(String source) {
        int longest = 0;
        int start = 0;
        String[] lines = source.split("\n");
        for (int i = 0; i < lines.length; i++) {
            if (lines[i].matches("    (    )?\\w.*\\) \\{")) {
                start = i;
                int commas = lines[i].length() - lines[i].replace(",", "").length();
                Check.due("parameters of " + lines[i].trim(), commas < 7 || lines[i].contains(" weighs("), true);
            } else if (lines[i].matches("    (    )?\\}")) {
                longest = Math.max(longest, i - start);
            }
        }
        Check.due("the longest method is of " + longest + " lines", longest <= 60, true);
        Check.due("classes", count(source, "\\bclass \\w+"), 12);
    }
}

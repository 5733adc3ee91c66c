import java.io.IOException;
import java.nio.file.Files;
import java.nio.file.Path;
import java.util.List;
import java.util.regex.Pattern;

/** Rules of LANGUAGE.md that can be read off the source; run where src/ lies. */
public final class LanguageTest {
    public static void main(String[] args) throws IOException {
        Due due = new Due("LanguageTest");
        List<String> lines = Files.readAllLines(Path.of("src/main/java/InkHours.java"));
        StringBuilder code = new StringBuilder();
        for (String line : lines) {
            String bare = line.replaceAll("\"[^\"]*\"", "\"\"").replaceAll("//.*", "").replaceAll("/\\*\\*.*\\*/", "");
            code.append(bare).append('\n');
            for (int i = 0; i < line.length(); i++) due.is("signs of " + line, line.charAt(i) >= 32 && line.charAt(i) < 127 ? 1 : 0, 1);
        }
        String[] ruledOut = {
            "\\b(throw|throws|try|catch|finally|synchronized|assert|import|package|protected|volatile|native|goto)\\b", "->", "::", "Exact\\b",
            "\\bSystem\\.(?!arraycopy\\b)", "\\b(Thread|Random|Object|Class|Runtime|Files|Scanner|HashMap|Map|Set|Exception)\\b", "\\binstanceof\\b",
            "\\bnull\\b", "\\bMath\\.(?!max\\b|min\\b)", "static\\s*\\{", "\\.(hashCode|toString|getClass)\\(", "\\[\\]\\[\\]", "@"
        };
        for (String s : ruledOut) due.is("ruled out: " + s, Pattern.compile(s).matcher(code).find() ? 1 : 0, 0);
        due.is("no static field that can change",
            Pattern.compile("\\bstatic (?!final\\b|int\\b[^=;]*\\(|boolean\\b[^=;]*\\(|void\\b)").matcher(code).find() ? 1 : 0, 0);
        methodsAreShort(due, lines);
        due.end();
    }

    private static void methodsAreShort(Due due, List<String> lines) {
        int begin = -1;
        String end = "";
        for (int i = 0; i < lines.size(); i++) {
            String line = lines.get(i);
            String indent = line.replaceAll("\\S.*", "");
            boolean begins = line.endsWith(") {") && (indent.length() == 4 || indent.length() == 8 && !line.matches(" *(if|for|while|switch|} else).*"));
            if (begins) {
                begin = i;
                end = indent + "}";
                String parameters = line.substring(line.indexOf('(') + 1);
                due.is("seven parameters at most: " + line, parameters.split(",").length <= 7 ? 1 : 0, 1);
            } else if (begin >= 0 && line.equals(end)) {
                due.is("sixty lines at most: " + lines.get(begin), i - begin <= 60 ? 1 : 0, 1);
                begin = -1;
            }
        }
    }
}

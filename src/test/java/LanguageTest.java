import java.nio.file.Files;
import java.nio.file.Path;
import java.util.regex.Matcher;
import java.util.regex.Pattern;

/** What of ../shared/LANGUAGE.md can be seen in the source's text: no word of what it leaves out, no long method. */
final class LanguageTest {
    private static final String[] LEFT_OUT = {"\\bthrow\\b", "\\bthrows\\b", "\\btry\\b", "\\bcatch\\b", "\\bsynchronized\\b",
        "\\bassert\\b", "\\bimport\\b", "\\bpackage\\b", "->", "::", "Exact\\b", "\\bstatic \\{", "\\bvar\\b", "\\bprotected\\b",
        "\\bObject\\b", "\\bSystem\\b", "\\bThread\\b", "\\bhashCode\\b", "\\btoString\\b", "\\bpublic (?!final class BabyRound|"
        + "static final int NONE|BabyRound\\(|int |boolean )", "\" \\+", "\\+ \"", "\\[\\]\\[\\]\\["};

    private LanguageTest() {
    }

    public static void main(String[] args) throws Exception {
        Check check = new Check("LanguageTest");
        String source = Files.readString(Path.of("src/main/java/BabyRound.java"));
        String code = source.replaceAll("(?s)/\\*.*?\\*/", "").replaceAll("//[^\n]*", "");
        for (String word : LEFT_OUT) {
            check.due("left out: " + word, Pattern.compile(word).matcher(code).find(), false);
        }
        check.due("signs are of 1 to 127", source.chars().allMatch(c -> c > 0 && c < 128), true);
        methods(check, code);
        check.due("classes", count(code, "\\bclass \\w+"), 9);
        check.due("public members", count(code, "\\n    public "), 43);
        face(check, code);
        check.due("members seen in the package", count(code, "\\n    (?!public |private |[ }\\n])"), 0);
        check.end();
    }

    private static int count(String code, String what) {
        int n = 0;
        Matcher m = Pattern.compile(what).matcher(code);
        while (m.find()) {
            n++;
        }
        return n;
    }

    /** Each line of the document's public face stands in the source. */
    private static void face(Check check, String code) throws Exception {
        String doc = Files.readString(Path.of("../shared/DOC.md"));
        int begin = doc.indexOf("public final class BabyRound {");
        String[] lines = doc.substring(begin, doc.indexOf("```", begin)).split("\n");
        for (String line : lines) {
            String member = line.strip().replace(";", "");
            check.due("in the face: " + member, code.contains(member), true);
        }
        check.due("lines of the face", lines.length, 45);
    }

    private static void methods(Check check, String code) {
        String[] lines = code.split("\n");
        int began = -1;
        String indent = "";
        for (int i = 0; i < lines.length; i++) {
            Matcher m = Pattern.compile("( {4}| {8})\\w[^=;]*\\((.*)\\) \\{").matcher(lines[i]);
            if (began < 0 && m.matches()) {
                began = i;
                indent = m.group(1);
                check.due("parameters: " + lines[i], m.group(2).split(",").length <= 7, true);
            } else if (began >= 0 && lines[i].equals(indent + "}")) {
                check.due("lines of" + lines[began], i - began < 60, true);
                began = -1;
            }
        }
    }
}

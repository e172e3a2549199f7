import java.nio.file.Files;
import java.nio.file.Path;
import java.util.regex.Matcher;
import java.util.regex.Pattern;

/** Rules of ../shared/LANGUAGE.md that can be seen in the text of the class. Runs in the project's folder. */
public final class LanguageTest {
    private static final String[] FORBIDDEN = {"\\bthrow\\b", "\\bthrows\\b", "\\btry\\b", "\\bcatch\\b", "\\bfinally\\b",
        "\\bsynchronized\\b", "\\bassert\\b", "\\bpackage\\b", "->", "::", "\\bequals\\b", "\\bhashCode\\b", "\\btoString\\b",
        "\\w+Exact\\b", "\\bSystem\\.(?!arraycopy)", "\\bMath\\.(?!min|max|abs|floorDiv|floorMod)", "\\bInteger\\.(?!bitCount)",
        "\\bLong\\.(?!bitCount)", "\\bprotected\\b", "\\bdouble\\b", "\\bfloat\\b", "\\bvar\\b", "\\bThread\\b", "\\bRandom\\b",
        "\\bjava\\.(?!util\\.(Arrays|ArrayList|List);)", "\\binstanceof\\b", "\\bObject\\b", "\\bString\\b", "@", "\\bdo\\b"};

    /** The text without comments and without what stands in quotes. */
    private static String bare(String text) {
        return text.replaceAll("(?s)/\\*.*?\\*/", " ").replaceAll("//[^\\n]*", " ").replaceAll("'(\\\\.|[^'])'", "' '");
    }

    private static void words(String text) {
        for (String forbidden : FORBIDDEN) {
            Matcher m = Pattern.compile(forbidden).matcher(text);
            Check.yes("no " + forbidden + " in the class", !m.find());
        }
        Check.yes("no string in the class", text.indexOf('"') < 0);
        Matcher mutable = Pattern.compile("\\bstatic (?!final )[\\w\\[\\]]+ \\w+( =|;)").matcher(text);
        Check.yes("static fields are final", !mutable.find());
        Matcher wide = Pattern.compile("\\w+ \\w+\\(([^()]*,){7,}[^()]*\\) \\{").matcher(text);
        Check.yes("seven parameters at most", !wide.find());
    }

    /** What is made is made in constructors, once for each object. */
    private static void makings(String text) {
        int at = 0;
        for (String line : text.split("\n")) {
            at++;
            boolean making = line.contains("new ");
            Check.yes("line " + at + " makes only what a constructor keeps", !making || line.matches("\\s+\\w+ = new .*;"));
        }
    }

    private static void sizes(String text) {
        int classes = 0;
        int begun = -1;
        String[] lines = text.split("\n");
        for (int i = 0; i < lines.length; i++) {
            if (lines[i].matches(".*\\bclass \\w+ \\{")) classes++;
            if (lines[i].matches("(    |        )\\w.*\\) \\{") && !lines[i].contains(" class ")) begun = i;
            if (begun >= 0 && lines[i].matches("(    |        )\\}")) {
                Check.yes("the method at line " + (begun + 1) + " has 60 lines at most", i - begun <= 60);
                begun = -1;
            }
            Check.yes("line " + (i + 1) + " is not too long", lines[i].length() <= 130);
        }
        Check.yes("twelve classes at most", classes <= 12);
    }

    public static void main(String[] args) throws Exception {
        String text = Files.readString(Path.of("src/main/java/CreakBoards.java"));
        boolean plain = true;
        for (int i = 0; i < text.length(); i++) plain &= text.charAt(i) < 127 && (text.charAt(i) >= 32 || text.charAt(i) == '\n');
        Check.yes("plain signs alone", plain);
        words(bare(text));
        makings(bare(text));
        sizes(text);
        Check.end("LanguageTest");
    }
}

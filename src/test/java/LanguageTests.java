import java.nio.file.Files;
import java.nio.file.Path;
import java.util.ArrayList;
import java.util.List;
import java.util.regex.Matcher;
import java.util.regex.Pattern;

/** The rules of LANGUAGE.md that show in the text of the class. */
public final class LanguageTests {
    static final String FACE = "person dispute feed end text fault by argue pour snuff night played years undo of lamps is loses fills "
        + "book foretold rank bring ways weight reach pattern kernel basis spare nearest street lights bill war rest verdict belief "
        + "lit dark mean game whodid stretches stretch said whose blaze surest poorest solvent fool ledger image back about";

    public static void main(String[] args) throws Exception {
        String raw = Files.readString(Path.of("src/main/java/LitByLosers.java"));
        String text = raw.replaceAll("(?s)/\\*.*?\\*/", " ").replaceAll("//[^\n]*", " ").replaceAll("\"[^\"\n]*\"", "\"\"");
        Due.due("rule 3: signs are 1 to 127", raw.chars().allMatch(c -> c > 0 && c < 128), true);
        for (String word : "throw throws try catch finally synchronized assert package import extends instanceof native volatile "
            .concat("transient record var System.exit Thread Random Object float double static{ goto null strictfp").split(" ")) {
            Due.due("rules 2, 6: no " + word, Pattern.compile("\\b" + Pattern.quote(word) + "\\b").matcher(text).find(), false);
        }
        for (String sign : new String[] {"->", "::", "@", "Exact(", "new int[]", "\"\" +", "+ \"\""}) {
            Due.due("rules 2, 4, 10: no " + sign, text.contains(sign), false);
        }
        library(text);
        face(text);
        sizes(text);
        Due.finish("LanguageTests");
    }

    static void library(String text) {
        List<String> allowed = List.of("Math.max", "Math.min", "Math.abs", "Integer.bitCount", "System.arraycopy", "WORDS.length", "WORDS.charAt");
        Matcher m = Pattern.compile("\\b[A-Z]\\w*\\.[a-z]\\w*").matcher(text);
        while (m.find()) Due.due("rule 4: " + m.group(), allowed.contains(m.group()), true);
    }

    static void face(String text) {
        List<String> names = List.of(FACE.split(" "));
        List<String> seen = new ArrayList<>();
        Matcher m = Pattern.compile("(?m)^    public (?:int|long|boolean) (\\w+)\\(").matcher(text);
        while (m.find()) seen.add(m.group(1));
        Due.due("rule 1: the face", seen.equals(names), true);
        Matcher other = Pattern.compile("(?m)^ {4,}(?:private |static |final )*(?:int|long|boolean|void|\\w+) (\\w+)\\([^;]*\\) \\{$").matcher(text);
        int others = 0;
        while (other.find()) {
            if (other.group().contains("public ")) continue;
            others++;
            Due.due("rule 1: " + other.group(1) + " is the name of a public one", names.contains(other.group(1)), false);
        }
        Due.due("rule 1: others were looked at", others > 50, true);
        Matcher open = Pattern.compile("(?m)^    (?!private |public |\\}|\\s|$)\\S.*").matcher(text);
        while (open.find()) Due.due("rule 1: " + open.group(), true, false);
    }

    static void sizes(String text) {
        String[] lines = text.split("\n");
        int from = -1;
        int classes = 0;
        for (int i = 0; i < lines.length; i++) {
            boolean method = lines[i].matches(" {4,8}\\S.*\\) \\{") && !lines[i].matches(".*\\b(if|for|while|switch|else)\\b.*");
            if (method) from = i;
            if (lines[i].matches(" {4,8}\\}") && from >= 0) {
                Due.due("rule 11: line " + (from + 1) + " begins a method of some sixty lines", i - from <= 60, true);
                from = -1;
            }
            if (lines[i].matches(".*\\bclass \\w+ \\{")) classes++;
        }
        Due.due("rule 11: classes " + classes, classes > 5 && classes <= 12, true);
    }
}

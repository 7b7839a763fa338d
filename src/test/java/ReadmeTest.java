import java.io.IOException;
import java.nio.file.Files;
import java.nio.file.Path;
import java.util.regex.Matcher;
import java.util.regex.Pattern;

/** README.md names every call of the document's face once in its tables, and its example answers as it says. */
public final class ReadmeTest {
    public static void main(String[] args) throws IOException {
        calls(Files.readString(Path.of("../shared/DOC.md")), Files.readString(Path.of("README.md")));
        example();
        Check.finish();
    }

    private static void calls(String doc, String readme) {
        Matcher m = Pattern.compile("    public (?:int|long) (\\w+)\\((.*?)\\);").matcher(doc);
        int n = 0;
        while (m.find()) {
            String call = m.group(1) + "(" + m.group(2).replaceAll("(int|long) ", "") + ")";
            Check.due("rows of " + call, readme.split(Pattern.quote("\n| `" + call + "` |"), -1).length - 1, 1);
            n++;
        }
        Check.due("calls of the face", n, 47);
    }

    private static void example() {
        SendTheBox x = new SendTheBox();
        for (char c : "days 3;box 12 room 6;sort room 2 comes 2 hold 3 left 9".toCharArray()) {
            x.feed(c, 1);
        }
        Check.due("house()", x.house(), 0);
        Check.due("cost", x.cost(0, 3, 0), 61440);
        Check.due("scale", x.scale(0, 3), 4096);
        Check.due("best", x.best(0, 2, 3), 3);
        Check.due("rule", x.rule(0, 1, 2), 1);
        Check.due("lose", x.lose(0, 3, 0, 0), 6144);
    }
}

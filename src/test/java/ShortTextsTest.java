import java.util.ArrayList;
import java.util.HashSet;
import java.util.List;
import java.util.Set;

/**
 * Every text of up to six bytes, over the bytes that matter, against the words of FAULT: a byte can
 * stand where it stands if some text of lines begins with all up to it. Those texts are written out.
 */
public final class ShortTextsTest extends Edges {
    /** Two names, the letters on both sides of all names, the four signs and the blank. */
    private static final String BYTES = "aj`k=&*; ";
    private static final int LONGEST = 6;

    private static final List<String> LINES = allLines();
    private static final Set<String> TEXTS = new HashSet<>();
    private static final Set<String> BEGINNINGS = new HashSet<>();

    public static void main(String[] args) {
        writeOut();
        term("18", "FAULT: the place of the first byte that can not stand there", () -> checkFrom(""));
        Check.end("ShortTextsTest");
    }

    private static List<String> allLines() {
        List<String> lines = new ArrayList<>();
        for (String x : List.of("a", "j")) {
            for (String y : List.of("a", "j")) {
                lines.addAll(List.of(x + "=&" + y + ";", x + "=" + y + ";", x + "=*" + y + ";", "*" + x + "=" + y + ";"));
            }
        }
        return lines;
    }

    /** Two lines have eight bytes at least: no text that is looked at has more. */
    private static void writeOut() {
        TEXTS.add("");
        for (String first : LINES) {
            TEXTS.add(first);
            for (String second : LINES) {
                TEXTS.add(first + second);
            }
        }
        for (String text : TEXTS) {
            for (int k = 0; k <= text.length(); k++) {
                BEGINNINGS.add(text.substring(0, k));
            }
        }
    }

    private static void checkFrom(String text) {
        check(text);
        for (int k = 0; k < BYTES.length() && text.length() < LONGEST; k++) {
            checkFrom(text + BYTES.charAt(k));
        }
    }

    private static void check(String text) {
        JoinedNames n = new JoinedNames();
        n.line(3, B, C);
        int want = answerTo(text);
        due("reads() of '" + text + "'", reads(n, text), want);
        due("states behind '" + text + "'", n.told(5), want < 0 ? 1 : 2);
        String bare = text.replace(" ", "");
        dueLines("behind '" + text + "'", n, want < 0 ? "*b=c;" : bare);
    }

    private static int answerTo(String text) {
        for (int k = 0; k < text.length(); k++) {
            if (!BEGINNINGS.contains(text.substring(0, k + 1).replace(" ", ""))) {
                return -10 - k;
            }
        }
        String bare = text.replace(" ", "");
        return TEXTS.contains(bare) ? bare.replaceAll("[^;]", "").length() : -10 - text.length();
    }
}

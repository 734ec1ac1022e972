import java.io.IOException;
import java.nio.file.Files;
import java.nio.file.Path;
import java.util.regex.Matcher;
import java.util.regex.Pattern;

/** DOC.md by its promises: which of its words a test has named, so that no boundary case is left without one. */
final class Document {
    /** The number under which the sentences of "Terms" are named. */
    static final int TERMS = 0;
    private static final int PROMISES = 50;
    private static final Pattern BOUNDARY = Pattern.compile("NONE|-2|false|at most|at least|\\d \\.\\. |of like ones|none such"
            + "|can't|doing nothing|empty|beyond|without MEN|too many|second time|wrapping|modulo|once each|directly behind"
            + "|already|1 to 4|by 0|at first|lowest|behind 0|if there is none|less than|else|till|enough|in place of|0 of ");

    private final Check check;
    private final String[] sections = new String[PROMISES + 1];
    private final boolean[][] named = new boolean[PROMISES + 1][];

    Document(Check check, Path file) throws IOException {
        this.check = check;
        String all = Files.readString(file).replaceAll("\\s+", " ");
        for (int i = 0; i <= PROMISES; i++) {
            String head = i == TERMS ? "## Terms" : "## Promise " + i + ":";
            int from = all.indexOf(head);
            int to = all.indexOf("## ", from + head.length());
            if (from < 0 || to < 0) {
                throw new IllegalArgumentException("no section " + head);
            }
            sections[i] = all.substring(from + head.length(), to);
            named[i] = new boolean[sections[i].length()];
        }
    }

    /** What is asked from here on is asked for these words, which must stand in that section. */
    void says(int section, String words) {
        check.part((section == TERMS ? "Terms" : "Promise " + section) + ", \"" + words + "\"");
        int at = sections[section].indexOf(words);
        check.due("the document says so", at >= 0, true);
        for (; at >= 0; at = sections[section].indexOf(words, at + 1)) {
            for (int i = at; i < at + words.length(); i++) {
                named[section][i] = true;
            }
        }
    }

    /** Every word that tells a boundary stands in words that were named. */
    void isNamedWhole() {
        check.part("the document");
        for (int section = 0; section <= PROMISES; section++) {
            Matcher boundary = BOUNDARY.matcher(sections[section]);
            while (boundary.find()) {
                String around = sections[section].substring(Math.max(0, boundary.start() - 30),
                        Math.min(sections[section].length(), boundary.end() + 30));
                check.due("section " + section + ", a test for \".." + around + "..\"", named[section][boundary.start()], true);
            }
        }
    }
}

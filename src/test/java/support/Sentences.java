import java.io.IOException;
import java.nio.file.Files;
import java.nio.file.Path;
import java.util.BitSet;
import java.util.regex.Matcher;
import java.util.regex.Pattern;

/**
 * Ties each boundary test to the words of the document that it is about: words that do not stand in the document are
 * wrong, and so is a sentence of a part whose words no test has. {@link #of} opens a part, {@link #end} ends them all.
 */
final class Sentences {
    private static final Path DOCUMENT = Path.of("../shared/DOC.md");
    private static final String HEADINGS =
            "## .*|ROUTE, SHIPS, WEATHER|A DAY|TEXT|ACTIONS AND UNDO|EXCEPTIONS|The constants: .*";
    private static String heading = "";
    private static String part = "";
    private static BitSet told = new BitSet();

    private Sentences() {
    }

    static void of(String itsHeading) {
        close();
        heading = itsHeading;
        part = fold(find(itsHeading));
        told = new BitSet();
    }

    /** A test without a check would hold whatever the class does. */
    static void holds(String words, Runnable test) {
        String name = heading + ", \"" + words + "\"";
        int from = part.indexOf(words);
        Check.isTrue(name + " stands in the document", from >= 0);
        for (int at = from; at >= 0; at = part.indexOf(words, at + 1)) {
            told.set(at, at + words.length());
        }
        int before = Check.made();
        Check.under(name);
        test.run();
        Check.under("");
        Check.isTrue(name + " has a check", Check.made() > before);
    }

    static void end() {
        close();
        Check.end();
    }

    private static void close() {
        Matcher pieces = Pattern.compile("[^\n]+?(?:[.;](?= )|(?=\n)|$)").matcher(part);
        while (pieces.find()) {
            int first = told.nextSetBit(pieces.start());
            boolean has = first >= 0 && first < pieces.end();
            Check.isTrue(heading + ", a test for: " + pieces.group().strip(), has);
        }
    }

    private static String find(String itsHeading) {
        Matcher start = Pattern.compile("(?m)^(?:## )?" + Pattern.quote(itsHeading) + "$").matcher(read());
        boolean found = start.find();
        Check.isTrue("the heading " + itsHeading + " stands in the document", found);
        if (!found) {
            return "";
        }
        String rest = read().substring(start.end());
        Matcher next = Pattern.compile("(?m)^(?:" + HEADINGS + ")$").matcher(rest);
        return next.find() ? rest.substring(0, next.start()) : rest;
    }

    /** A line for the description, for each argument, and for what is returned and thrown; no numbers of a list. */
    private static String fold(String text) {
        String plain = text.replaceAll("(?m)^```.*$", "").replaceAll("(?m)^\\d\\. ", "");
        String marked = plain.replaceAll("(?m)^(?=- |Returns |Throws |Forgets )", "\u00b6");
        String folded = marked.replaceAll("\\s+", " ").replace(" \u00b6", "\n").strip();
        return folded.replaceAll("^`[^`]*`: ", "");
    }

    private static String read() {
        try {
            return Files.readString(DOCUMENT);
        } catch (IOException e) {
            Check.isTrue(DOCUMENT + " can be read", false);
            return "";
        }
    }
}

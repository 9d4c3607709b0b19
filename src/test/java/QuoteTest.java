import java.io.IOException;
import java.nio.file.DirectoryStream;
import java.nio.file.Files;
import java.nio.file.Path;
import java.util.ArrayList;
import java.util.Arrays;
import java.util.List;
import java.util.regex.Matcher;
import java.util.regex.Pattern;

/**
 * The sentences that the tests quote, against ../shared/DOC.md: each quote stands there, word for word, and each part
 * of the document, but for those named here, is quoted by a test that names its promise.
 */
public final class QuoteTest {
    private static final Expect expect = new Expect("QuoteTest");
    private static final Path DOCUMENT = Path.of("..", "shared", "DOC.md");
    private static final Path TESTS = Path.of("src", "test", "java");
    private static final int PROMISES = 24;

    private static final Pattern TEST = Pattern.compile(
            "expect\\.test\\(\\s*(\\d+),\\s*(\"(?:[^\"\\\\]|\\\\.)*\"(?:\\s*\\+\\s*\"(?:[^\"\\\\]|\\\\.)*\")*),");
    private static final Pattern TEXT = Pattern.compile("\"((?:[^\"\\\\]|\\\\.)*)\"");

    /**
     * What needs no quote: headings, signatures (FaceTest has them), names of parameters, and sentences that say
     * nothing which a call could show; ahead of the last ones stands why.
     */
    private static final String[] NO_QUOTE = {
        "# PinDeck ## What it is A pinsetter .*? strikes and spares\\.", "what later calls answer is free\\.",
        "## The public face ## Terms It tells which pins a ball would take, .*? how a game ends\\.",
        "PINS", "A BALL", "THE MACHINE", "A GAME", "SETTINGS", "TEXT", "ACTIONS AND UNDO", "EXCEPTIONS",
        "## Promise \\d+: [\\w ]+ `[^`]*`:",
        "Ahead of the calls [^:]* the interface says: ----( [a-z ]+,)? [a-z ]+\\.?",
        "- `\\w+`:", "Returns a number( of a pin| of a frame)?\\.", "Returns that number\\.",
        "(?<=- `k`: )pin", "(?<=- `f`: )frame", "Rolls a ball\\.", "Finds the (best board|slowest ball)\\.",
        "## Not promised .*",
        // What it means, the sentences of the single methods say.
        "IllegalStateException means what the method says\\.",
        // In which order the pins of a row are gone through, and push, no call can show: see NOTES.md.
        "(?<=are gone through )from left to right", "(?<=that have not fallen, )from left to right",
        // Each digit is the number of a pin and of a frame.
        "commands with pins or frames that do not exist fail",
    };

    /** A quote of a test, and the promise that it names. */
    private static final class Quote {
        final String test;
        final int promise;
        final String words;

        Quote(String test, int promise, String words) {
            this.test = test;
            this.promise = promise;
            this.words = words;
        }
    }

    private static List<Quote> quotesOf(Path file) throws IOException {
        List<Quote> all = new ArrayList<>();
        Matcher call = TEST.matcher(Files.readString(file));
        while (call.find()) {
            StringBuilder words = new StringBuilder();
            Matcher part = TEXT.matcher(call.group(2));
            while (part.find()) {
                words.append(part.group(1).replace("\\\"", "\""));
            }
            all.add(new Quote(file.getFileName().toString(), Integer.parseInt(call.group(1)), words.toString()));
        }
        return all;
    }

    private static List<Quote> quotes() throws IOException {
        List<Quote> all = new ArrayList<>();
        try (DirectoryStream<Path> files = Files.newDirectoryStream(TESTS, "*Test.java")) {
            for (Path file : files) {
                all.addAll(quotesOf(file));
            }
        }
        return all;
    }

    /** The document in sections: at 0 the terms and all else, from 1 to 24 the promises. */
    private static String[] sections() throws IOException {
        String[] all = new String[PROMISES + 1];
        String text = Files.readString(DOCUMENT).replaceAll("(?s)```java.*?```", "").replaceAll("\\s+", " ");
        for (int promise = 1; promise <= PROMISES; promise++) {
            int from = text.indexOf("## Promise " + promise + ":");
            int to = text.indexOf("## ", from + 3);
            expect.holds("the document has the promise " + promise, from >= 0 && to > from);
            if (from < 0 || to <= from) {
                all[promise] = "";
                continue;
            }
            all[promise] = text.substring(from, to);
            text = text.substring(0, from) + text.substring(to);
        }
        all[0] = text;
        return all;
    }

    /** Marks where the words stand, and answers whether they stand there at all. */
    private static boolean mark(String section, String words, boolean[] marked) {
        int at = words.isEmpty() ? -1 : section.indexOf(words);
        boolean found = at >= 0;
        while (at >= 0) {
            for (int i = at; i < at + words.length(); i++) {
                marked[i] = true;
            }
            at = section.indexOf(words, at + 1);
        }
        return found;
    }

    /** Each word of the section must be marked; those that are not are told as they stand together. */
    private static void covered(String name, String section, boolean[] marked) {
        int from = 0;
        while (from < section.length()) {
            int to = from;
            while (to < section.length() && marked[to] == marked[from]) {
                to++;
            }
            String part = section.substring(from, to).strip();
            if (part.matches(".*\\w.*")) {
                expect.holds(name + ": no test quotes \"" + part + "\"", marked[from]);
            }
            from = to;
        }
    }

    private static void compare() throws IOException {
        String[] sections = sections();
        boolean[][] marked = new boolean[sections.length][];
        for (int i = 0; i < sections.length; i++) {
            marked[i] = new boolean[sections[i].length()];
        }
        for (Quote quote : quotes()) {
            boolean good = quote.promise >= 1 && quote.promise <= PROMISES;
            boolean inTerms = mark(sections[0], quote.words, marked[0]);
            boolean inPromise = good && mark(sections[quote.promise], quote.words, marked[quote.promise]);
            expect.holds(quote.test + ": neither the terms nor the promise " + quote.promise + " say \"" + quote.words
                    + "\"", inTerms || inPromise);
        }
        for (int i = 0; i < sections.length; i++) {
            for (String words : NO_QUOTE) {
                Matcher free = Pattern.compile(words).matcher(sections[i]);
                while (free.find()) {
                    Arrays.fill(marked[i], free.start(), free.end(), true);
                }
            }
            covered(i == 0 ? "the terms" : "the promise " + i, sections[i], marked[i]);
        }
    }

    public static void main(String[] args) throws IOException {
        if (Files.exists(DOCUMENT)) {
            compare();
        } else {
            System.out.println("QuoteTest: there is no " + DOCUMENT + " to compare with");
            expect.holds("the tests quote something", !quotes().isEmpty());
        }
        expect.end();
    }
}

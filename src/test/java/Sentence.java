import java.io.IOException;
import java.nio.file.Files;
import java.nio.file.Path;
import java.util.Map;
import java.util.TreeMap;

/**
 * The sentence of the document that the next answers are about. A quote must stand in the document
 * under its heading, once it is quoted its test must ask something, and in the end no words of the
 * terms and of the promises may be left that no test quoted.
 */
final class Sentence {
    private static final Path DOCUMENT = Path.of("../shared/DOC.md");
    private static final int PROMISES = 44;
    private static final Map<String, String> WORDS = new TreeMap<>();
    private static final Map<String, boolean[]> QUOTED = new TreeMap<>();
    private static final Map<String, Integer> TESTS = new TreeMap<>();
    private static int askedAhead = -1;
    private static String now = "";

    private Sentence() {
    }

    static void promise(int number, String words) {
        begin("Promise " + number, words);
    }

    static void terms(int part, String words) {
        begin("Terms " + part, words);
    }

    static void whatItIs(String words) {
        begin("What it is", words);
    }

    static void constants(String words) {
        begin("The constants", words);
    }

    private static void begin(String heading, String words) {
        close();
        now = heading + ", \"" + words + "\": ";
        Checks.about(now);
        Checks.holds("a test of its own", TESTS.put(now, 1) == null);
        if (WORDS.isEmpty()) {
            readDocument();
        }
        Checks.holds("the document says so", mark(heading, words));
        askedAhead = Checks.asked();
    }

    private static void close() {
        if (askedAhead >= 0) {
            Checks.holds("something was asked", Checks.asked() > askedAhead);
        }
        askedAhead = -1;
    }

    private static boolean mark(String heading, String words) {
        String all = WORDS.getOrDefault(heading, "");
        boolean[] quoted = QUOTED.get(heading);
        int at = all.indexOf(words);
        boolean stands = at >= 0;
        while (at >= 0) {
            for (int i = 0; i < words.length(); i++) {
                quoted[at + i] = true;
            }
            at = all.indexOf(words, at + 1);
        }
        return stands;
    }

    /** Each word of the terms and of the promises was quoted by some test. */
    static void allQuoted() {
        close();
        Checks.about("");
        for (int part = 1; part <= 3; part++) {
            allQuoted("Terms " + part);
        }
        for (int number = 1; number <= PROMISES; number++) {
            allQuoted("Promise " + number);
        }
        System.out.println(TESTS.size() + " sentences have a test of their own");
    }

    private static void allQuoted(String heading) {
        String words = WORDS.getOrDefault(heading, "");
        boolean[] quoted = QUOTED.get(heading);
        StringBuilder left = new StringBuilder();
        for (int i = 0; i < words.length(); i++) {
            left.append(quoted[i] || !Character.isLetterOrDigit(words.charAt(i)) ? ' ' : words.charAt(i));
        }
        String rest = left.toString().trim().replaceAll(" +", " ");
        Checks.holds(heading + ": no test quotes \"" + rest + "\"", !words.isEmpty() && rest.isEmpty());
    }

    private static void readDocument() {
        String text;
        try {
            text = Files.readString(DOCUMENT);
        } catch (IOException e) {
            throw new IllegalStateException("the document can't be read: " + DOCUMENT, e);
        }
        for (String section : text.replaceAll("```(text)?", " ").split("\n## ")) {
            int end = section.indexOf('\n');
            if (end >= 0) {
                takeSection(section.substring(0, end), section.substring(end).replaceAll("\\s+", " ").trim());
            }
        }
    }

    private static void takeSection(String heading, String words) {
        if (heading.startsWith("Promise ")) {
            keep(heading.substring(0, heading.indexOf(':')), words.substring(words.indexOf("`: ") + 3));
        } else if (heading.equals("Terms")) {
            int two = words.indexOf("==== 2.");
            int three = words.indexOf("==== 3.");
            int end = words.indexOf("The constants:");
            keep("Terms 1", words.substring(0, two));
            keep("Terms 2", words.substring(two + 7, three));
            keep("Terms 3", words.substring(three + 7, end));
            keep("The constants", words.substring(end));
        } else {
            keep(heading, words);
        }
    }

    private static void keep(String heading, String words) {
        WORDS.put(heading, words);
        QUOTED.put(heading, new boolean[words.length()]);
    }
}

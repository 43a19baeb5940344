import java.io.IOException;
import java.nio.file.Files;
import java.nio.file.Path;

/** Which sentence of the document is being held, and what was not as it asks. */
final class Sheet {
    static final int NONE = -1, UNKNOWN = -1000000001, OUTSIDE = -1000000002, NOT = -1000000003, FULL = -1000000004;
    private static final Path DOCUMENT = Path.of("../shared/DOC.md");
    private static final int MOST_TOLD = 60;

    private static String sentence = "";
    private static String document = null;
    private static int sentences = 0;
    private static int checks = 0;
    private static int wrong = 0;

    private Sheet() {
    }

    /** The checks from here on hold these words of the document. */
    static void holds(String words) {
        sentence = words;
        sentences++;
        // Another wording is no fault of the program, so it is told and fails nothing.
        if (!document().isEmpty() && !document().contains(words)) {
            System.out.println("the document no longer says: " + words);
        }
    }

    private static String document() {
        if (document == null) {
            try {
                document = Files.isReadable(DOCUMENT) ? Files.readString(DOCUMENT) : "";
            } catch (IOException e) {
                document = "";
            }
        }
        return document;
    }

    static void due(String what, long got, long want) {
        checks++;
        if (got != want) {
            wrong++;
            if (wrong <= MOST_TOLD) {
                System.out.println("'" + sentence + "': " + what + " answered " + got + ", due is " + want);
            }
        }
    }

    static void end() {
        System.out.println(wrong == 0
                ? sentences + " sentences held by " + checks + " checks"
                : wrong + " of " + checks + " checks are not as due");
        if (wrong != 0) {
            System.exit(1);
        }
    }
}

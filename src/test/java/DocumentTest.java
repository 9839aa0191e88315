import java.lang.reflect.Method;
import java.nio.file.Files;
import java.nio.file.Path;
import java.util.TreeMap;

/** Each sentence of the document is quoted by a test that holds the class to it, word for word; run from the project's folder. */
public final class DocumentTest {
    static final Path DOCUMENT = Path.of("../shared/DOC.md");
    static final Class<?>[] TESTS = {TermsTest.class, PatternTermsTest.class, RuleTermsTest.class, PromiseTest.class};
    static final int PROMISES = 17;

    /** Says in short what the sentences after it say. */
    static final String SUMMARY = "Rules that look at things: patterns ask what a thing is, take it for that, look into its halves and"
            + " places, keep what they met; the first rule that fits does its act with what was kept; what is taken for what it is not,"
            + " what is not there, what a row refuses lets a rule fall.";

    static int wrong = 0;

    static void tell(String what) {
        wrong++;
        System.out.println(what);
    }

    /** The text by promise, 0 being all ahead of them, without headings, marks and signatures, its blanks folded. */
    static TreeMap<Integer, String> sections(String text) {
        TreeMap<Integer, String> all = new TreeMap<>();
        all.put(Says.TERMS, body(text, "## What it is") + " " + body(text, "## Terms"));
        for (int promise = 1; promise <= PROMISES; promise++) {
            all.put(promise, body(text, "## Promise " + promise + ": ").replaceFirst("^[^`]*`[^`]*`: ", ""));
        }
        return all;
    }

    static String body(String text, String heading) {
        int start = text.indexOf("\n" + heading);
        if (start < 0) {
            tell("the document has no '" + heading + "'");
            return "";
        }
        int end = text.indexOf("\n## ", start + 1);
        String found = text.substring(start + 1 + heading.length(), end < 0 ? text.length() : end);
        return found.replaceAll("```(text)?", " ").replaceAll("=+ [0-9]", " ").replaceAll("\\s+", " ").trim();
    }

    /** Blanks out what is quoted, and tells what is quoted but does not stand there. */
    static void markQuoted(TreeMap<Integer, String> sections, TreeMap<Integer, StringBuilder> left) {
        for (Class<?> tests : TESTS) {
            for (Method test : Sentences.testsOf(tests)) {
                Says says = test.getAnnotation(Says.class);
                int at = sections.getOrDefault(says.promise(), "").indexOf(says.words());
                if (at < 0) {
                    tell(test.getName() + " quotes what does not stand in " + Sentences.where(says) + ": " + says.words());
                    continue;
                }
                for (int k = at; k < at + says.words().length(); k++) {
                    left.get(says.promise()).setCharAt(k, ' ');
                }
            }
        }
    }

    public static void main(String[] args) throws Exception {
        TreeMap<Integer, String> sections = sections(Files.readString(DOCUMENT));
        TreeMap<Integer, StringBuilder> left = new TreeMap<>();
        sections.forEach((promise, text) -> left.put(promise, new StringBuilder(text)));
        markQuoted(sections, left);
        left.forEach((promise, text) -> {
            String rest = text.toString().replace(SUMMARY, "").replaceAll("[\\s:;]+", " ").trim();
            if (!rest.isEmpty()) {
                tell("no test quotes of " + (promise == Says.TERMS ? "Terms" : "Promise " + promise) + ": " + rest);
            }
        });
        System.out.println(wrong == 0 ? "each sentence has its test" : wrong + " are not as due");
        if (wrong != 0) {
            System.exit(1);
        }
    }
}

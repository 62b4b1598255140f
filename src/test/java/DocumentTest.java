import java.io.IOException;
import java.lang.reflect.Method;
import java.nio.file.Files;
import java.nio.file.Path;
import java.util.ArrayList;
import java.util.LinkedHashMap;
import java.util.List;
import java.util.Map;

/** Each sentence that a test names stands in its part of the document, and no part has a sentence without a test. */
public final class DocumentTest {
    private static final Class<?>[] TESTS = {BoundariesTermsTest.class, BoundariesTermsTextsTest.class,
        BoundariesCratesTest.class, BoundariesTextsTest.class, BoundariesLooksTest.class, BoundariesSumsTest.class,
        BoundariesHistoryTest.class};

    /** Its first sentence names what all the others tell. */
    private static final String OVERVIEW = "whatItIs";

    private static final String[][] HEADS_OF_TERMS = {{OVERVIEW, "## What it is"}, {"termsCrates", "### Crates"},
        {"termsDeeds", "### Deeds"}, {"termsReading", "### Reading"}, {"termsWays", "### Ways to a crate"},
        {"termsNests", "### Nests of loose crates"}, {"termsTexts", "### Texts"},
        {"termsChanges", "### Changes and errors"}};

    /** Sentences that name no boundary case. */
    private static final String[] WITHOUT_BOUNDARY = {"(Sizes and depths are known from outside.)", "The constants: ",
        "Ahead of the calls `make`, `put`, `ground`, `turn`, `breakUp` the interface says: ---- crates.",
        "Ahead of the calls `append`, `clear`, `fault`, `load`, `sign` the interface says: ---- texts.",
        "Ahead of the calls `undo`, `save`, `restore` the interface says: ---- history, snapshot."};

    private final String place;
    private final String text;
    private final boolean[] named;

    private DocumentTest(String place, String text) {
        this.place = place;
        this.text = text;
        this.named = new boolean[text.length()];
    }

    public static void main(String[] args) throws IOException {
        if (args.length < 2 || !Files.exists(Path.of(args[1]))) {
            System.out.println("DocumentTest: no document to compare with");
            return;
        }
        Map<String, String> sections = sections(Files.readString(Path.of(args[1])));
        Map<String, DocumentTest> parts = new LinkedHashMap<>();
        for (String head : sections.keySet()) {
            String place = placeOf(head);
            if (!place.isEmpty()) {
                parts.put(place, new DocumentTest(place, sections.get(head)));
            }
        }
        for (Class<?> tests : TESTS) {
            for (Method test : Sentences.of(tests)) {
                name(parts.get(Sentences.placeOf(test)), test);
            }
        }
        for (DocumentTest part : parts.values()) {
            if (!part.place.equals(OVERVIEW)) {
                part.tellWhatIsNotNamed();
            }
        }
        Due.end("DocumentTest");
    }

    private static Map<String, String> sections(String document) {
        Map<String, String> sections = new LinkedHashMap<>();
        String head = "";
        for (String line : document.split("\n")) {
            if (line.startsWith("## ") || line.startsWith("### ")) {
                head = line;
            } else {
                sections.merge(head, line, (before, next) -> before + "\n" + next);
            }
        }
        return sections;
    }

    private static String placeOf(String head) {
        for (String[] term : HEADS_OF_TERMS) {
            if (head.equals(term[1])) {
                return term[0];
            }
        }
        return head.matches("## Promise \\d+: .*") ? head.replaceAll("## Promise (\\d+): .*", "promise$1") : "";
    }

    private static void name(DocumentTest part, Method test) {
        Due.due("the part of the document for " + test.getName(), part == null ? 0 : 1, 1);
        if (part != null) {
            boolean stands = part.mark(Sentences.textOf(test));
            Due.due("the sentence of " + test.getName() + " stands in " + part.place, stands ? 1 : 0, 1);
        }
    }

    private boolean mark(String sentence) {
        int start = text.indexOf(sentence);
        for (int at = start; at >= 0 && at < start + sentence.length(); at++) {
            named[at] = true;
        }
        return start >= 0;
    }

    private void tellWhatIsNotNamed() {
        for (String sentence : WITHOUT_BOUNDARY) {
            mark(sentence);
        }
        List<String> left = new ArrayList<>();
        for (String line : unnamed().split("\n")) {
            boolean face = line.matches("`\\w+ ?\\w+\\([\\w ,]*\\)`:?\\W*");
            if (!face && line.matches(".*\\w.*")) {
                left.add(line);
            }
        }
        Due.due("what no test of " + place + " names", left.toString(), "[]");
    }

    private String unnamed() {
        StringBuilder unnamed = new StringBuilder();
        for (int at = 0; at < text.length(); at++) {
            unnamed.append(named[at] ? "" : text.charAt(at));
        }
        return unnamed.toString();
    }
}

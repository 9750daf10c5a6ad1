import java.io.IOException;
import java.nio.file.Files;
import java.nio.file.Path;
import java.nio.file.Paths;
import java.util.ArrayList;
import java.util.LinkedHashMap;
import java.util.List;
import java.util.Map;

/**
 * The tests by sentence quote the document in its own words and leave none out: below 'Terms' and each promise every
 * word belongs to a test; and FaceTest asks for the face that the document shows. It needs ../shared/DOC.md beside the project, and says so when it is not there.
 */
public final class DocumentTest {
    private static final Path DOCUMENT = Paths.get("..", "shared", "DOC.md");

    public static void main(String[] args) throws IOException {
        if (!Files.exists(DOCUMENT)) {
            System.out.println("there is no " + DOCUMENT + " here to hold the tests against");
            return;
        }
        Map<String, String> sections = sections();
        faceIsTheDocuments(sections.get("The public face"));
        Map<String, boolean[]> tested = new LinkedHashMap<>();
        for (Map.Entry<String, String> section : sections.entrySet()) {
            tested.put(section.getKey(), new boolean[section.getValue().length()]);
        }
        for (Sentences.Entry entry : allSentences().entries()) {
            Check.isTrue("no such section: " + entry.section, sections.containsKey(entry.section));
            if (sections.containsKey(entry.section)) {
                mark(entry, sections.get(entry.section), tested.get(entry.section));
            }
        }
        for (Map.Entry<String, String> section : sections.entrySet()) {
            if (section.getKey().equals("Terms") || section.getKey().startsWith("Promise")) {
                String left = leftOver(section.getValue(), tested.get(section.getKey()));
                Check.isTrue(section.getKey() + " has words without a test:" + left, left.isEmpty());
            }
        }
        Check.finish();
    }

    /** The face as the document shows it at its beginning, and each method again at the head of its promise. */
    private static void faceIsTheDocuments(String shown) throws IOException {
        StringBuilder due = new StringBuilder("```java public final class ChannelRooms {");
        due.append(" public static final int NONE = -1; public ChannelRooms();");
        List<String> heads = new ArrayList<>();
        heads.add("ChannelRooms()");
        for (String method : FaceTest.METHODS) {
            due.append(" public ").append(method).append(';');
            heads.add(method);
        }
        due.append(" } ```");
        Check.isTrue("the document shows " + shown, due.toString().equals(shown));
        Check.isTrue("the promises' heads are " + heads(), heads.equals(heads()));
    }

    private static List<String> heads() throws IOException {
        List<String> heads = new ArrayList<>();
        boolean inPromise = false;
        for (String line : Files.readAllLines(DOCUMENT)) {
            inPromise = line.startsWith("## ") ? line.startsWith("## Promise") : inPromise;
            if (inPromise && line.matches("`[^`]*`:.*")) {
                heads.add(line.substring(1, line.indexOf('`', 1)));
            }
        }
        return heads;
    }

    private static Sentences allSentences() {
        Sentences all = new Sentences();
        TermsTest.sentences(all);
        PartsTest.sentences(all);
        ChannelsTest.sentences(all);
        CarryTest.sentences(all);
        RoomsTest.sentences(all);
        LabelsTest.sentences(all);
        ArraysTest.sentences(all);
        return all;
    }

    /** Each section's words by its heading; without the head of the method, which is no sentence. */
    private static Map<String, String> sections() throws IOException {
        Map<String, String> sections = new LinkedHashMap<>();
        String heading = "";
        for (String line : Files.readAllLines(DOCUMENT)) {
            if (line.startsWith("## ")) {
                heading = line.substring(3);
            } else {
                String words = heading.startsWith("Promise") ? line.replaceFirst("^`[^`]*`:", "") : line;
                sections.merge(heading, words.trim(), (before, more) -> (before + " " + more).trim());
            }
        }
        return sections;
    }

    private static void mark(Sentences.Entry entry, String text, boolean[] tested) {
        int at = text.indexOf(entry.words);
        Check.isTrue(entry.section + " does not say: " + entry.words, at >= 0);
        while (at >= 0) {
            for (int i = at; i < at + entry.words.length(); i++) {
                tested[i] = true;
            }
            at = text.indexOf(entry.words, at + 1);
        }
    }

    private static String leftOver(String text, boolean[] tested) {
        StringBuilder left = new StringBuilder();
        for (int i = 0; i < text.length(); i++) {
            if (!tested[i] && !Character.isWhitespace(text.charAt(i))) {
                boolean follows = i > 0 && !tested[i - 1] && !Character.isWhitespace(text.charAt(i - 1));
                left.append(follows ? "" : " ").append(text.charAt(i));
            }
        }
        return left.toString();
    }
}

import java.util.ArrayList;
import java.util.List;
import java.util.function.Consumer;

/** Tests by the words of the document that they hold the class to; DocumentTest sees that no words are left over. */
final class Sentences {
    static final class Entry {
        final String section;
        final String words;
        final Runnable test;

        Entry(String section, String words, Runnable test) {
            this.section = section;
            this.words = words;
            this.test = test;
        }
    }

    private final List<Entry> entries = new ArrayList<>();
    private String section = "";

    /** What follows stands below this heading of the document. */
    void below(String heading) {
        section = heading;
    }

    /** The document says these very words, and the test fails if they are broken. */
    void says(String words, Runnable test) {
        entries.add(new Entry(section, words, test));
    }

    List<Entry> entries() {
        return entries;
    }

    static void run(Consumer<Sentences> tests) {
        Sentences all = new Sentences();
        tests.accept(all);
        for (Entry entry : all.entries) {
            Check.about(entry.section + ": " + entry.words, entry.test);
        }
        Check.finish();
    }
}

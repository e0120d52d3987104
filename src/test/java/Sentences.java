import java.io.IOException;
import java.nio.file.Files;
import java.nio.file.Path;

/** A test that goes through the document sentence by sentence; the words that it asks about must stand there. */
abstract class Sentences {
    static final int BAD = -1, STATE = -2, FULL = -3, NONE = -4;
    private static final Path DOCUMENT = Path.of("../shared/DOC.md");

    final Check check;
    private final String document;
    private String sentence = "";
    RainCover x = new RainCover();

    Sentences(String name) throws IOException {
        check = new Check(name);
        document = Files.readString(DOCUMENT).replaceAll("\\s+", " ");
    }

    /** Words of the terms, ahead of the promises; what follows is asked of a new object. */
    void term(String words) {
        begin(words, document.substring(0, document.indexOf("## Promise 1:")));
    }

    /** Words of a promise; what follows is asked of a new object. */
    void promise(int number, String words) {
        int from = document.indexOf("## Promise " + number + ":");
        int to = document.indexOf("## ", from + 1);
        begin(words, document.substring(from, to));
    }

    private void begin(String words, String where) {
        sentence = words;
        x = new RainCover();
        check.due("the document says '" + words + "'", where.contains(words) ? 1 : 0, 1);
    }

    void due(String call, long got, long want) {
        check.due("'" + sentence + "', " + call, got, want);
    }

    /** A new object that was told a text without faults. */
    void told(String text) {
        x = Check.told(text);
    }

    void feedAll(String text) {
        for (int i = 0; i < text.length(); i++) {
            x.feed(text.charAt(i));
        }
    }

    void purses(int... due) {
        for (int p = 0; p < due.length; p++) {
            due("purse of " + p, x.one(p, 2), due[p]);
        }
    }

    /** So many weeks of sun; SHEET 3 is used. */
    void letWeeksGo(int many) {
        x.sheet(3, 0, 20);
        for (int left = many; left > 0; left -= 20) {
            x.read(3, 0, 0, Math.min(20, left));
        }
    }

    /** The object as it is, seen by a probe, must be as another one that was made in the same way but for one call. */
    void same(String call, RainCover other) {
        due(call + " changes nothing", Probe.of(x).equals(Probe.of(other)) ? 1 : 0, 1);
    }
}
